def RX0 : String := "PhraseDesk$Converters"
def TX0 : u_T := fun k => match k with
  | 0 => ("PhraseDesk$Converters", "there", "[Z", true)
  | _ => ("PhraseDesk$Converters", "scratch", "Ljava/lang/StringBuilder;", true)
def RX1 : String := "PhraseDesk$Family"
def TX1 : u_T := fun k => match k with
  | 0 => ("PhraseDesk$Family", "number", "I", true)
  | 1 => ("PhraseDesk$Family", "kind", "I", true)
  | 2 => ("PhraseDesk$Family", "parent", "LPhraseDesk$Family;", true)
  | 3 => ("PhraseDesk$Family", "fields", "[LPhraseDesk$Field;", true)
  | 4 => ("PhraseDesk$Family", "fieldCount", "I", false)
  | 5 => ("PhraseDesk$Family", "routines", "[LPhraseDesk$Routine;", true)
  | _ => ("PhraseDesk$Family", "routineCount", "I", false)
def RX2 : String := "PhraseDesk$Field"
def TX2 : u_T := fun k => match k with
  | 0 => ("PhraseDesk$Field", "name", "I", true)
  | 1 => ("PhraseDesk$Field", "type", "I", true)
  | _ => ("PhraseDesk$Field", "slot", "I", true)
def RX3 : String := "PhraseDesk$Finder"
def TX3 : u_T := fun k => match k with
  | 0 => ("PhraseDesk$Finder", "candidates", "[LPhraseDesk$Routine;", true)
  | 1 => ("PhraseDesk$Finder", "count", "I", false)
  | _ => ("PhraseDesk$Finder", "failure", "I", false)
def RX4 : String := "PhraseDesk$Lexer"
def TX4 : u_T := fun k => match k with
  | 0 => ("PhraseDesk$Lexer", "letters", "[C", true)
  | 1 => ("PhraseDesk$Lexer", "length", "I", false)
  | 2 => ("PhraseDesk$Lexer", "kinds", "[I", true)
  | 3 => ("PhraseDesk$Lexer", "places", "[I", true)
  | 4 => ("PhraseDesk$Lexer", "names", "[I", true)
  | 5 => ("PhraseDesk$Lexer", "literals", "[LPhraseDesk$Value;", true)
  | 6 => ("PhraseDesk$Lexer", "count", "I", false)
  | _ => ("PhraseDesk$Lexer", "scratch", "Ljava/lang/StringBuilder;", true)
def RX5 : String := "PhraseDesk$Node"
def TX5 : u_T := fun k => match k with
  | 0 => ("PhraseDesk$Node", "op", "I", true)
  | 1 => ("PhraseDesk$Node", "name", "I", true)
  | 2 => ("PhraseDesk$Node", "literal", "LPhraseDesk$Value;", true)
  | 3 => ("PhraseDesk$Node", "one", "LPhraseDesk$Node;", true)
  | 4 => ("PhraseDesk$Node", "two", "LPhraseDesk$Node;", true)
  | 5 => ("PhraseDesk$Node", "three", "LPhraseDesk$Node;", true)
  | 6 => ("PhraseDesk$Node", "lenient", "Z", false)
  | _ => ("PhraseDesk$Node", "bracketed", "Z", false)
def RX6 : String := "PhraseDesk$Parser"
def TX6 : u_T := fun k => match k with
  | 0 => ("PhraseDesk$Parser", "lexer", "LPhraseDesk$Lexer;", true)
  | 1 => ("PhraseDesk$Parser", "at", "I", false)
  | 2 => ("PhraseDesk$Parser", "error", "I", false)
  | _ => ("PhraseDesk$Parser", "place", "I", false)
def RX7 : String := "PhraseDesk$Routine"
def TX7 : u_T := fun k => match k with
  | 0 => ("PhraseDesk$Routine", "name", "I", true)
  | 1 => ("PhraseDesk$Routine", "one", "I", true)
  | 2 => ("PhraseDesk$Routine", "two", "I", true)
  | 3 => ("PhraseDesk$Routine", "parameters", "I", true)
  | 4 => ("PhraseDesk$Routine", "action", "I", true)
  | _ => ("PhraseDesk$Routine", "number", "I", true)
def RX8 : String := "PhraseDesk$Runner"
def TX8 : u_T := fun k => match k with
  | 0 => ("PhraseDesk$Runner", "nothing", "LPhraseDesk$Value;", true)
  | 1 => ("PhraseDesk$Runner", "converters", "LPhraseDesk$Converters;", true)
  | 2 => ("PhraseDesk$Runner", "finder", "LPhraseDesk$Finder;", true)
  | 3 => ("PhraseDesk$Runner", "variableNames", "[I", true)
  | 4 => ("PhraseDesk$Runner", "variableValues", "[LPhraseDesk$Value;", true)
  | 5 => ("PhraseDesk$Runner", "variableCount", "I", false)
  | 6 => ("PhraseDesk$Runner", "root", "LPhraseDesk$Value;", false)
  | _ => ("PhraseDesk$Runner", "failure", "I", false)
def RX9 : String := "PhraseDesk$Thing"
def TX9 : u_T := fun k => match k with
  | 0 => ("PhraseDesk$Thing", "number", "I", true)
  | 1 => ("PhraseDesk$Thing", "family", "LPhraseDesk$Family;", true)
  | _ => ("PhraseDesk$Thing", "values", "[LPhraseDesk$Value;", true)
def RX10 : String := "PhraseDesk$Value"
def TX10 : u_T := fun k => match k with
  | 0 => ("PhraseDesk$Value", "kind", "I", true)
  | 1 => ("PhraseDesk$Value", "number", "I", true)
  | 2 => ("PhraseDesk$Value", "real", "D", true)
  | 3 => ("PhraseDesk$Value", "chars", "Ljava/lang/String;", true)
  | _ => ("PhraseDesk$Value", "thing", "LPhraseDesk$Thing;", true)
def RX11 : String := "PhraseDesk"
def TX11 : u_T := fun k => match k with
  | 0 => ("PhraseDesk", "parser", "LPhraseDesk$Parser;", true)
  | 1 => ("PhraseDesk", "runner", "LPhraseDesk$Runner;", true)
  | 2 => ("PhraseDesk", "programs", "[LPhraseDesk$Node;", true)
  | 3 => ("PhraseDesk", "programCount", "I", false)
  | 4 => ("PhraseDesk", "families", "[LPhraseDesk$Family;", true)
  | 5 => ("PhraseDesk", "familyCount", "I", false)
  | 6 => ("PhraseDesk", "objects", "[LPhraseDesk$Value;", true)
  | 7 => ("PhraseDesk", "objectCount", "I", false)
  | _ => ("PhraseDesk", "latest", "LPhraseDesk$Value;", false)
def RX12 : String := "PhraseDeskModel"
def TX12 : u_T := fun k => match k with
  | 0 => ("PhraseDeskModel", "threw", "I", false)
  | 1 => ("PhraseDeskModel", "size", "I", false)
  | 2 => ("PhraseDeskModel", "letters", "[I", true)
  | 3 => ("PhraseDeskModel", "tokens", "I", false)
  | 4 => ("PhraseDeskModel", "tokenKind", "[I", true)
  | 5 => ("PhraseDeskModel", "tokenAt", "[I", true)
  | 6 => ("PhraseDeskModel", "token", "[J", true)
  | 7 => ("PhraseDeskModel", "scale", "[I", true)
  | 8 => ("PhraseDeskModel", "error", "I", false)
  | 9 => ("PhraseDeskModel", "where", "I", false)
  | 10 => ("PhraseDeskModel", "programs", "I", false)
  | 11 => ("PhraseDeskModel", "step", "[I", true)
  | 12 => ("PhraseDeskModel", "with", "[J", true)
  | 13 => ("PhraseDeskModel", "lengths", "[I", true)
  | 14 => ("PhraseDeskModel", "next", "I", false)
  | 15 => ("PhraseDeskModel", "start", "I", false)
  | 16 => ("PhraseDeskModel", "written", "I", false)
  | 17 => ("PhraseDeskModel", "operand", "Z", false)
  | 18 => ("PhraseDeskModel", "done", "Z", false)
  | 19 => ("PhraseDeskModel", "frames", "I", false)
  | 20 => ("PhraseDeskModel", "frame", "[I", true)
  | 21 => ("PhraseDeskModel", "base", "[I", true)
  | 22 => ("PhraseDeskModel", "sign", "[I", true)
  | 23 => ("PhraseDeskModel", "patch", "[I", true)
  | 24 => ("PhraseDeskModel", "callName", "[I", true)
  | 25 => ("PhraseDeskModel", "callCount", "[I", true)
  | 26 => ("PhraseDeskModel", "closed", "[Z", true)
  | 27 => ("PhraseDeskModel", "plain", "[Z", true)
  | 28 => ("PhraseDeskModel", "aims", "[Z", true)
  | 29 => ("PhraseDeskModel", "waiting", "I", false)
  | 30 => ("PhraseDeskModel", "operation", "[I", true)
  | 31 => ("PhraseDeskModel", "level", "[I", true)
  | 32 => ("PhraseDeskModel", "jump", "[I", true)
  | 33 => ("PhraseDeskModel", "target", "I", false)
  | 34 => ("PhraseDeskModel", "targetStep", "I", false)
  | 35 => ("PhraseDeskModel", "classes", "I", false)
  | 36 => ("PhraseDeskModel", "parent", "[I", true)
  | 37 => ("PhraseDeskModel", "fields", "[I", true)
  | 38 => ("PhraseDeskModel", "fieldName", "[I", true)
  | 39 => ("PhraseDeskModel", "fieldType", "[I", true)
  | 40 => ("PhraseDeskModel", "methods", "[I", true)
  | 41 => ("PhraseDeskModel", "methodName", "[I", true)
  | 42 => ("PhraseDeskModel", "one", "[I", true)
  | 43 => ("PhraseDeskModel", "two", "[I", true)
  | 44 => ("PhraseDeskModel", "action", "[I", true)
  | 45 => ("PhraseDeskModel", "methodNumber", "[I", true)
  | 46 => ("PhraseDeskModel", "converts", "[Z", true)
  | 47 => ("PhraseDeskModel", "objects", "I", false)
  | 48 => ("PhraseDeskModel", "classOf", "[I", true)
  | 49 => ("PhraseDeskModel", "variables", "I", false)
  | 50 => ("PhraseDeskModel", "variable", "[I", true)
  | 51 => ("PhraseDeskModel", "kind", "[I", true)
  | 52 => ("PhraseDeskModel", "a", "[J", true)
  | 53 => ("PhraseDeskModel", "b", "[J", true)
  | 54 => ("PhraseDeskModel", "real", "[D", true)
  | 55 => ("PhraseDeskModel", "top", "I", false)
  | 56 => ("PhraseDeskModel", "failure", "I", false)
  | 57 => ("PhraseDeskModel", "root", "I", false)
  | 58 => ("PhraseDeskModel", "built", "[I", true)
  | _ => ("PhraseDeskModel", "builtSize", "I", false)
def tyX12 : Nat → FieldType := fun k => match k with
  | 0 => .int
  | 1 => .int
  | 2 => .array .int
  | 3 => .int
  | 4 => .array .int
  | 5 => .array .int
  | 6 => .array .long
  | 7 => .array .int
  | 8 => .int
  | 9 => .int
  | 10 => .int
  | 11 => .array .int
  | 12 => .array .long
  | 13 => .array .int
  | 14 => .int
  | 15 => .int
  | 16 => .int
  | 17 => .boolean
  | 18 => .boolean
  | 19 => .int
  | 20 => .array .int
  | 21 => .array .int
  | 22 => .array .int
  | 23 => .array .int
  | 24 => .array .int
  | 25 => .array .int
  | 26 => .array .boolean
  | 27 => .array .boolean
  | 28 => .array .boolean
  | 29 => .int
  | 30 => .array .int
  | 31 => .array .int
  | 32 => .array .int
  | 33 => .int
  | 34 => .int
  | 35 => .int
  | 36 => .array .int
  | 37 => .array .int
  | 38 => .array .int
  | 39 => .array .int
  | 40 => .array .int
  | 41 => .array .int
  | 42 => .array .int
  | 43 => .array .int
  | 44 => .array .int
  | 45 => .array .int
  | 46 => .array .boolean
  | 47 => .int
  | 48 => .array .int
  | 49 => .int
  | 50 => .array .int
  | 51 => .array .int
  | 52 => .array .long
  | 53 => .array .long
  | 54 => .array .double
  | 55 => .int
  | 56 => .int
  | 57 => .int
  | 58 => .array .int
  | _ => .int
abbrev wsX120 : List Cond := u_ws RX12 TX12 60
theorem nmX12 : ∀ a, a < 60 → ∀ b, b < 60 → a ≠ b → (TX12 a).2.1 ≠ (TX12 b).2.1 := by decide +kernel
theorem tyX12_ok : ∀ k, k < 60 → parseFieldDescriptor (TX12 k).2.2.1 = some (tyX12 k) := by decide +kernel
abbrev cX12_letter : ByteArray := prog_14_method_3_code
def yX12_letter : MethodName := ⟨RX12, "letter", "(I)I"⟩
abbrev cX12_at : ByteArray := prog_14_method_4_code
def yX12_at : MethodName := ⟨RX12, "at", "(I)I"⟩
abbrev cX12_digit : ByteArray := prog_14_method_5_code
def yX12_digit : MethodName := ⟨RX12, "digit", "(I)Z"⟩
abbrev cX12_lower : ByteArray := prog_14_method_6_code
def yX12_lower : MethodName := ⟨RX12, "lower", "(I)Z"⟩
abbrev cX12_wrong : ByteArray := prog_14_method_7_code
def yX12_wrong : MethodName := ⟨RX12, "wrong", "(II)V"⟩
abbrev cX12_add : ByteArray := prog_14_method_8_code
def yX12_add : MethodName := ⟨RX12, "add", "(IIJ)V"⟩
abbrev cX12_number : ByteArray := prog_14_method_9_code
def yX12_number : MethodName := ⟨RX12, "number", "(I)I"⟩
abbrev cX12_name : ByteArray := prog_14_method_10_code
def yX12_name : MethodName := ⟨RX12, "name", "(I)I"⟩
abbrev cX12_quoted : ByteArray := prog_14_method_11_code
def yX12_quoted : MethodName := ⟨RX12, "quoted", "(I)I"⟩
abbrev cX12_single : ByteArray := prog_14_method_12_code
def yX12_single : MethodName := ⟨RX12, "single", "(I)Z"⟩
abbrev cX12_twice : ByteArray := prog_14_method_13_code
def yX12_twice : MethodName := ⟨RX12, "twice", "(II)Z"⟩
abbrev cX12_sign : ByteArray := prog_14_method_14_code
def yX12_sign : MethodName := ⟨RX12, "sign", "(I)I"⟩
abbrev cX12_cut : ByteArray := prog_14_method_15_code
def yX12_cut : MethodName := ⟨RX12, "cut", "()V"⟩
abbrev cX12_isSign : ByteArray := prog_14_method_16_code
def yX12_isSign : MethodName := ⟨RX12, "isSign", "(I)Z"⟩
abbrev cX12_misfit : ByteArray := prog_14_method_17_code
def yX12_misfit : MethodName := ⟨RX12, "misfit", "()V"⟩
abbrev cX12_emit : ByteArray := prog_14_method_18_code
def yX12_emit : MethodName := ⟨RX12, "emit", "(IJ)I"⟩
abbrev cX12_open : ByteArray := prog_14_method_19_code
def yX12_open : MethodName := ⟨RX12, "open", "(I)V"⟩
abbrev cX12_fresh : ByteArray := prog_14_method_20_code
def yX12_fresh : MethodName := ⟨RX12, "fresh", "()V"⟩
abbrev cX12_ready : ByteArray := prog_14_method_21_code
def yX12_ready : MethodName := ⟨RX12, "ready", "(Z)V"⟩
abbrev cX12_call : ByteArray := prog_14_method_22_code
def yX12_call : MethodName := ⟨RX12, "call", "(IZ)V"⟩
abbrev cX12_named : ByteArray := prog_14_method_23_code
def yX12_named : MethodName := ⟨RX12, "named", "(IZ)V"⟩
abbrev cX12_word : ByteArray := prog_14_method_24_code
def yX12_word : MethodName := ⟨RX12, "word", "()V"⟩
abbrev cX12_first : ByteArray := prog_14_method_25_code
def yX12_first : MethodName := ⟨RX12, "first", "()V"⟩
abbrev cX12_levelNext : ByteArray := prog_14_method_26_code
def yX12_levelNext : MethodName := ⟨RX12, "levelNext", "()I"⟩
abbrev cX12_stepOf : ByteArray := prog_14_method_27_code
def yX12_stepOf : MethodName := ⟨RX12, "stepOf", "(I)I"⟩
abbrev cX12_reduce : ByteArray := prog_14_method_28_code
def yX12_reduce : MethodName := ⟨RX12, "reduce", "(I)V"⟩
abbrev cX12_compared : ByteArray := prog_14_method_29_code
def yX12_compared : MethodName := ⟨RX12, "compared", "()Z"⟩
abbrev cX12_binary : ByteArray := prog_14_method_30_code
def yX12_binary : MethodName := ⟨RX12, "binary", "(I)V"⟩
abbrev cX12_suffix : ByteArray := prog_14_method_31_code
def yX12_suffix : MethodName := ⟨RX12, "suffix", "()Z"⟩
abbrev cX12_behind : ByteArray := prog_14_method_32_code
def yX12_behind : MethodName := ⟨RX12, "behind", "()V"⟩
abbrev cX12_assign : ByteArray := prog_14_method_33_code
def yX12_assign : MethodName := ⟨RX12, "assign", "()V"⟩
abbrev cX12_argument : ByteArray := prog_14_method_34_code
def yX12_argument : MethodName := ⟨RX12, "argument", "()V"⟩
abbrev cX12_finish : ByteArray := prog_14_method_35_code
def yX12_finish : MethodName := ⟨RX12, "finish", "()V"⟩
abbrev cX12_parse : ByteArray := prog_14_method_36_code
def yX12_parse : MethodName := ⟨RX12, "parse", "()I"⟩
abbrev cX12_isClass : ByteArray := prog_14_method_37_code
def yX12_isClass : MethodName := ⟨RX12, "isClass", "(I)Z"⟩
abbrev cX12_isType : ByteArray := prog_14_method_38_code
def yX12_isType : MethodName := ⟨RX12, "isType", "(I)Z"⟩
abbrev cX12_isName : ByteArray := prog_14_method_39_code
def yX12_isName : MethodName := ⟨RX12, "isName", "(I)Z"⟩
abbrev cX12_type : ByteArray := prog_14_method_40_code
def yX12_type : MethodName := ⟨RX12, "type", "(I)I"⟩
abbrev cX12_field : ByteArray := prog_14_method_41_code
def yX12_field : MethodName := ⟨RX12, "field", "(III)I"⟩
abbrev cX12_method : ByteArray := prog_14_method_42_code
def yX12_method : MethodName := ⟨RX12, "method", "(IIIIII)I"⟩
abbrev cX12_make : ByteArray := prog_14_method_43_code
def yX12_make : MethodName := ⟨RX12, "make", "(I)I"⟩
abbrev cX12_converter : ByteArray := prog_14_method_44_code
def yX12_converter : MethodName := ⟨RX12, "converter", "(IIZ)Z"⟩
abbrev cX12_fieldOf : ByteArray := prog_14_method_45_code
def yX12_fieldOf : MethodName := ⟨RX12, "fieldOf", "(II)I"⟩
abbrev cX12_set : ByteArray := prog_14_method_46_code
def yX12_set : MethodName := ⟨RX12, "set", "(IIJD)V"⟩
abbrev cX12_copy : ByteArray := prog_14_method_47_code
def yX12_copy : MethodName := ⟨RX12, "copy", "(II)V"⟩
abbrev cX12_push : ByteArray := prog_14_method_48_code
def yX12_push : MethodName := ⟨RX12, "push", "(IJ)V"⟩
abbrev cX12_lengthOf : ByteArray := prog_14_method_49_code
def yX12_lengthOf : MethodName := ⟨RX12, "lengthOf", "(I)I"⟩
abbrev cX12_sign8 : ByteArray := prog_14_method_50_code
def yX12_sign8 : MethodName := ⟨RX12, "sign8", "(II)I"⟩
abbrev cX12_build : ByteArray := prog_14_method_51_code
def yX12_build : MethodName := ⟨RX12, "build", "(I)V"⟩
abbrev cX12_buildNumber : ByteArray := prog_14_method_52_code
def yX12_buildNumber : MethodName := ⟨RX12, "buildNumber", "(I)V"⟩
abbrev cX12_buildWord : ByteArray := prog_14_method_53_code
def yX12_buildWord : MethodName := ⟨RX12, "buildWord", "(IIIII)V"⟩
abbrev cX12_spell : ByteArray := prog_14_method_54_code
def yX12_spell : MethodName := ⟨RX12, "spell", "(I)V"⟩
abbrev cX12_settle : ByteArray := prog_14_method_55_code
def yX12_settle : MethodName := ⟨RX12, "settle", "(I)V"⟩
abbrev cX12_intOf : ByteArray := prog_14_method_56_code
def yX12_intOf : MethodName := ⟨RX12, "intOf", "(I)I"⟩
abbrev cX12_whole : ByteArray := prog_14_method_57_code
def yX12_whole : MethodName := ⟨RX12, "whole", "(I)I"⟩
abbrev cX12_spells : ByteArray := prog_14_method_58_code
def yX12_spells : MethodName := ⟨RX12, "spells", "(IIIIII)Z"⟩
abbrev cX12_toBool : ByteArray := prog_14_method_59_code
def yX12_toBool : MethodName := ⟨RX12, "toBool", "(I)V"⟩
abbrev cX12_convert : ByteArray := prog_14_method_60_code
def yX12_convert : MethodName := ⟨RX12, "convert", "(II)V"⟩
abbrev cX12_steps : ByteArray := prog_14_method_61_code
def yX12_steps : MethodName := ⟨RX12, "steps", "(II)I"⟩
abbrev cX12_fitsType : ByteArray := prog_14_method_62_code
def yX12_fitsType : MethodName := ⟨RX12, "fitsType", "(II)Z"⟩
abbrev cX12_convertible : ByteArray := prog_14_method_63_code
def yX12_convertible : MethodName := ⟨RX12, "convertible", "(II)Z"⟩
abbrev cX12_fit : ByteArray := prog_14_method_64_code
def yX12_fit : MethodName := ⟨RX12, "fit", "(II)V"⟩
abbrev cX12_isNumber : ByteArray := prog_14_method_65_code
def yX12_isNumber : MethodName := ⟨RX12, "isNumber", "(I)Z"⟩
abbrev cX12_realOf : ByteArray := prog_14_method_66_code
def yX12_realOf : MethodName := ⟨RX12, "realOf", "(I)D"⟩
abbrev cX12_joins : ByteArray := prog_14_method_67_code
def yX12_joins : MethodName := ⟨RX12, "joins", "(I)Z"⟩
abbrev cX12_reals : ByteArray := prog_14_method_68_code
def yX12_reals : MethodName := ⟨RX12, "reals", "(III)V"⟩
abbrev cX12_ints : ByteArray := prog_14_method_69_code
def yX12_ints : MethodName := ⟨RX12, "ints", "(III)V"⟩
abbrev cX12_reckon : ByteArray := prog_14_method_70_code
def yX12_reckon : MethodName := ⟨RX12, "reckon", "(III)V"⟩
abbrev cX12_alike : ByteArray := prog_14_method_71_code
def yX12_alike : MethodName := ⟨RX12, "alike", "(II)Z"⟩
abbrev cX12_compare : ByteArray := prog_14_method_72_code
def yX12_compare : MethodName := ⟨RX12, "compare", "(III)V"⟩
abbrev cX12_unary : ByteArray := prog_14_method_73_code
def yX12_unary : MethodName := ⟨RX12, "unary", "(I)V"⟩
abbrev cX12_property : ByteArray := prog_14_method_74_code
def yX12_property : MethodName := ⟨RX12, "property", "(IZ)V"⟩
abbrev cX12_paramsOf : ByteArray := prog_14_method_75_code
def yX12_paramsOf : MethodName := ⟨RX12, "paramsOf", "(II)I"⟩
abbrev cX12_stands : ByteArray := prog_14_method_76_code
def yX12_stands : MethodName := ⟨RX12, "stands", "(IIII)Z"⟩
abbrev cX12_weight : ByteArray := prog_14_method_77_code
def yX12_weight : MethodName := ⟨RX12, "weight", "(II)I"⟩
abbrev cX12_suits : ByteArray := prog_14_method_78_code
def yX12_suits : MethodName := ⟨RX12, "suits", "(III)I"⟩
abbrev cX12_found : ByteArray := prog_14_method_79_code
def yX12_found : MethodName := ⟨RX12, "found", "(IIII)I"⟩
abbrev cX12_act : ByteArray := prog_14_method_80_code
def yX12_act : MethodName := ⟨RX12, "act", "(III)V"⟩
abbrev cX12_calls : ByteArray := prog_14_method_81_code
def yX12_calls : MethodName := ⟨RX12, "calls", "(II)V"⟩
abbrev cX12_placeOf : ByteArray := prog_14_method_82_code
def yX12_placeOf : MethodName := ⟨RX12, "placeOf", "(I)I"⟩
abbrev cX12_placeFor : ByteArray := prog_14_method_83_code
def yX12_placeFor : MethodName := ⟨RX12, "placeFor", "(I)I"⟩
abbrev cX12_typeAt : ByteArray := prog_14_method_84_code
def yX12_typeAt : MethodName := ⟨RX12, "typeAt", "(I)I"⟩
abbrev cX12_assigns : ByteArray := prog_14_method_85_code
def yX12_assigns : MethodName := ⟨RX12, "assigns", "(II)V"⟩
abbrev cX12_aim : ByteArray := prog_14_method_86_code
def yX12_aim : MethodName := ⟨RX12, "aim", "(I)V"⟩
abbrev cX12_loads : ByteArray := prog_14_method_87_code
def yX12_loads : MethodName := ⟨RX12, "loads", "(IJ)V"⟩
abbrev cX12_empty : ByteArray := prog_14_method_88_code
def yX12_empty : MethodName := ⟨RX12, "empty", "(I)Z"⟩
abbrev cX12_jumps : ByteArray := prog_14_method_89_code
def yX12_jumps : MethodName := ⟨RX12, "jumps", "(I)Z"⟩
abbrev cX12_does : ByteArray := prog_14_method_90_code
def yX12_does : MethodName := ⟨RX12, "does", "(IJ)V"⟩
abbrev cX12_run : ByteArray := prog_14_method_91_code
def yX12_run : MethodName := ⟨RX12, "run", "(II)I"⟩
abbrev cX12_keep : ByteArray := prog_14_method_92_code
def yX12_keep : MethodName := ⟨RX12, "keep", "(I)I"⟩
abbrev cX12_put : ByteArray := prog_14_method_93_code
def yX12_put : MethodName := ⟨RX12, "put", "(II)I"⟩
abbrev cX12_result : ByteArray := prog_14_method_94_code
def yX12_result : MethodName := ⟨RX12, "result", "(I)I"⟩
abbrev cX12_text : ByteArray := prog_14_method_95_code
def yX12_text : MethodName := ⟨RX12, "text", "(I)I"⟩
abbrev cX12_about : ByteArray := prog_14_method_96_code
def yX12_about : MethodName := ⟨RX12, "about", "(I)I"⟩
def RJ0 : String := "java/lang/String"
def TJ0 : u_T := fun k => match k with
  | 0 => ("java/lang/String", "value", "[B", true)
  | 1 => ("java/lang/String", "coder", "B", true)
  | 2 => ("java/lang/String", "hash", "I", false)
  | _ => ("java/lang/String", "hashIsZero", "Z", false)
def RJ4 : String := "java/lang/StringBuilder"
def TJ4 : u_T := fun k => match k with
  | 0 => ("java/lang/AbstractStringBuilder", "value", "[B", false)
  | 1 => ("java/lang/AbstractStringBuilder", "coder", "B", false)
  | 2 => ("java/lang/AbstractStringBuilder", "maybeLatin1", "Z", false)
  | _ => ("java/lang/AbstractStringBuilder", "count", "I", false)
theorem dX12_letter_0 : decode cX12_letter 0 = .ok (.aload_n 0, 1) := by decide +kernel
theorem dX12_letter_1 : decode cX12_letter 1 = .ok (.iload_n 1, 1) := by decide +kernel
theorem dX12_letter_2 : decode cX12_letter 2 = .ok (.bipush 32, 2) := by decide +kernel
theorem dX12_letter_4 : decode cX12_letter 4 = .ok (.if_icmp .lt 9, 3) := by decide +kernel
theorem dX12_letter_7 : decode cX12_letter 7 = .ok (.iload_n 1, 1) := by decide +kernel
theorem dX12_letter_8 : decode cX12_letter 8 = .ok (.bipush 126, 2) := by decide +kernel
theorem dX12_letter_10 : decode cX12_letter 10 = .ok (.if_icmp .le 7, 3) := by decide +kernel
theorem dX12_letter_13 : decode cX12_letter 13 = .ok (.iconst 1, 1) := by decide +kernel
theorem dX12_letter_14 : decode cX12_letter 14 = .ok (.goto 17, 3) := by decide +kernel
theorem dX12_letter_17 : decode cX12_letter 17 = .ok (.aload_n 0, 1) := by decide +kernel
theorem dX12_letter_18 : decode cX12_letter 18 = .ok (.getfield 131, 3) := by decide +kernel
theorem dX12_letter_21 : decode cX12_letter 21 = .ok (.bipush 40, 2) := by decide +kernel
theorem dX12_letter_23 : decode cX12_letter 23 = .ok (.if_icmp .ne 7, 3) := by decide +kernel
theorem dX12_letter_26 : decode cX12_letter 26 = .ok (.iconst 2, 1) := by decide +kernel
theorem dX12_letter_27 : decode cX12_letter 27 = .ok (.goto 4, 3) := by decide +kernel
theorem dX12_letter_30 : decode cX12_letter 30 = .ok (.iconst 0, 1) := by decide +kernel
theorem dX12_letter_31 : decode cX12_letter 31 = .ok (.putfield 127, 3) := by decide +kernel
theorem dX12_letter_34 : decode cX12_letter 34 = .ok (.aload_n 0, 1) := by decide +kernel
theorem dX12_letter_35 : decode cX12_letter 35 = .ok (.getfield 127, 3) := by decide +kernel
theorem dX12_letter_38 : decode cX12_letter 38 = .ok (.ifCond .ne 23, 3) := by decide +kernel
theorem dX12_letter_41 : decode cX12_letter 41 = .ok (.aload_n 0, 1) := by decide +kernel
theorem dX12_letter_42 : decode cX12_letter 42 = .ok (.getfield 7, 3) := by decide +kernel
theorem dX12_letter_45 : decode cX12_letter 45 = .ok (.aload_n 0, 1) := by decide +kernel
theorem dX12_letter_46 : decode cX12_letter 46 = .ok (.getfield 131, 3) := by decide +kernel
theorem dX12_letter_49 : decode cX12_letter 49 = .ok (.iload_n 1, 1) := by decide +kernel
theorem dX12_letter_50 : decode cX12_letter 50 = .ok (.iastore, 1) := by decide +kernel
theorem dX12_letter_51 : decode cX12_letter 51 = .ok (.aload_n 0, 1) := by decide +kernel
theorem dX12_letter_52 : decode cX12_letter 52 = .ok (.dup, 1) := by decide +kernel
theorem dX12_letter_53 : decode cX12_letter 53 = .ok (.getfield 131, 3) := by decide +kernel
theorem dX12_letter_56 : decode cX12_letter 56 = .ok (.iconst 1, 1) := by decide +kernel
theorem dX12_letter_57 : decode cX12_letter 57 = .ok (.iadd, 1) := by decide +kernel
theorem dX12_letter_58 : decode cX12_letter 58 = .ok (.putfield 131, 3) := by decide +kernel
theorem dX12_letter_61 : decode cX12_letter 61 = .ok (.aload_n 0, 1) := by decide +kernel
theorem dX12_letter_62 : decode cX12_letter 62 = .ok (.getfield 131, 3) := by decide +kernel
theorem dX12_letter_65 : decode cX12_letter 65 = .ok (.ireturn, 1) := by decide +kernel
theorem dX12_at_0 : decode cX12_at 0 = .ok (.iload_n 1, 1) := by decide +kernel
theorem dX12_at_1 : decode cX12_at 1 = .ok (.aload_n 0, 1) := by decide +kernel
theorem dX12_at_2 : decode cX12_at 2 = .ok (.getfield 131, 3) := by decide +kernel
theorem dX12_at_5 : decode cX12_at 5 = .ok (.if_icmp .ge 12, 3) := by decide +kernel
theorem dX12_at_8 : decode cX12_at 8 = .ok (.aload_n 0, 1) := by decide +kernel
theorem dX12_at_9 : decode cX12_at 9 = .ok (.getfield 7, 3) := by decide +kernel
theorem dX12_at_12 : decode cX12_at 12 = .ok (.iload_n 1, 1) := by decide +kernel
theorem dX12_at_13 : decode cX12_at 13 = .ok (.iaload, 1) := by decide +kernel
theorem dX12_at_14 : decode cX12_at 14 = .ok (.goto 4, 3) := by decide +kernel
theorem dX12_at_17 : decode cX12_at 17 = .ok (.iconst 0, 1) := by decide +kernel
theorem dX12_at_18 : decode cX12_at 18 = .ok (.ireturn, 1) := by decide +kernel
theorem dX12_digit_0 : decode cX12_digit 0 = .ok (.aload_n 0, 1) := by decide +kernel
theorem dX12_digit_1 : decode cX12_digit 1 = .ok (.iload_n 1, 1) := by decide +kernel
theorem dX12_digit_2 : decode cX12_digit 2 = .ok (.invokevirtual 134, 3) := by decide +kernel
theorem dX12_digit_5 : decode cX12_digit 5 = .ok (.bipush 48, 2) := by decide +kernel
theorem dX12_digit_7 : decode cX12_digit 7 = .ok (.if_icmp .lt 17, 3) := by decide +kernel
theorem dX12_digit_10 : decode cX12_digit 10 = .ok (.aload_n 0, 1) := by decide +kernel
theorem dX12_digit_11 : decode cX12_digit 11 = .ok (.iload_n 1, 1) := by decide +kernel
theorem dX12_digit_12 : decode cX12_digit 12 = .ok (.invokevirtual 134, 3) := by decide +kernel
theorem dX12_digit_15 : decode cX12_digit 15 = .ok (.bipush 57, 2) := by decide +kernel
theorem dX12_digit_17 : decode cX12_digit 17 = .ok (.if_icmp .gt 7, 3) := by decide +kernel
theorem dX12_digit_20 : decode cX12_digit 20 = .ok (.iconst 1, 1) := by decide +kernel
theorem dX12_digit_21 : decode cX12_digit 21 = .ok (.goto 4, 3) := by decide +kernel
theorem dX12_digit_24 : decode cX12_digit 24 = .ok (.iconst 0, 1) := by decide +kernel
theorem dX12_digit_25 : decode cX12_digit 25 = .ok (.ireturn, 1) := by decide +kernel
theorem dX12_lower_0 : decode cX12_lower 0 = .ok (.aload_n 0, 1) := by decide +kernel
theorem dX12_lower_1 : decode cX12_lower 1 = .ok (.iload_n 1, 1) := by decide +kernel
theorem dX12_lower_2 : decode cX12_lower 2 = .ok (.invokevirtual 134, 3) := by decide +kernel
theorem dX12_lower_5 : decode cX12_lower 5 = .ok (.bipush 97, 2) := by decide +kernel
theorem dX12_lower_7 : decode cX12_lower 7 = .ok (.if_icmp .lt 17, 3) := by decide +kernel
theorem dX12_lower_10 : decode cX12_lower 10 = .ok (.aload_n 0, 1) := by decide +kernel
theorem dX12_lower_11 : decode cX12_lower 11 = .ok (.iload_n 1, 1) := by decide +kernel
theorem dX12_lower_12 : decode cX12_lower 12 = .ok (.invokevirtual 134, 3) := by decide +kernel
theorem dX12_lower_15 : decode cX12_lower 15 = .ok (.bipush 122, 2) := by decide +kernel
theorem dX12_lower_17 : decode cX12_lower 17 = .ok (.if_icmp .gt 7, 3) := by decide +kernel
theorem dX12_lower_20 : decode cX12_lower 20 = .ok (.iconst 1, 1) := by decide +kernel
theorem dX12_lower_21 : decode cX12_lower 21 = .ok (.goto 4, 3) := by decide +kernel
theorem dX12_lower_24 : decode cX12_lower 24 = .ok (.iconst 0, 1) := by decide +kernel
theorem dX12_lower_25 : decode cX12_lower 25 = .ok (.ireturn, 1) := by decide +kernel
theorem dX12_wrong_0 : decode cX12_wrong 0 = .ok (.aload_n 0, 1) := by decide +kernel
theorem dX12_wrong_1 : decode cX12_wrong 1 = .ok (.getfield 138, 3) := by decide +kernel
theorem dX12_wrong_4 : decode cX12_wrong 4 = .ok (.ifCond .ne 13, 3) := by decide +kernel
theorem dX12_wrong_7 : decode cX12_wrong 7 = .ok (.aload_n 0, 1) := by decide +kernel
theorem dX12_wrong_8 : decode cX12_wrong 8 = .ok (.iload_n 1, 1) := by decide +kernel
theorem dX12_wrong_9 : decode cX12_wrong 9 = .ok (.putfield 138, 3) := by decide +kernel
theorem dX12_wrong_12 : decode cX12_wrong 12 = .ok (.aload_n 0, 1) := by decide +kernel
theorem dX12_wrong_13 : decode cX12_wrong 13 = .ok (.iload_n 2, 1) := by decide +kernel
theorem dX12_wrong_14 : decode cX12_wrong 14 = .ok (.putfield 141, 3) := by decide +kernel
theorem dX12_wrong_17 : decode cX12_wrong 17 = .ok (.return_, 1) := by decide +kernel
theorem dX12_add_0 : decode cX12_add 0 = .ok (.aload_n 0, 1) := by decide +kernel
theorem dX12_add_1 : decode cX12_add 1 = .ok (.getfield 13, 3) := by decide +kernel
theorem dX12_add_4 : decode cX12_add 4 = .ok (.aload_n 0, 1) := by decide +kernel
theorem dX12_add_5 : decode cX12_add 5 = .ok (.getfield 144, 3) := by decide +kernel
theorem dX12_add_8 : decode cX12_add 8 = .ok (.iload_n 1, 1) := by decide +kernel
theorem dX12_add_9 : decode cX12_add 9 = .ok (.iastore, 1) := by decide +kernel
theorem dX12_add_10 : decode cX12_add 10 = .ok (.aload_n 0, 1) := by decide +kernel
theorem dX12_add_11 : decode cX12_add 11 = .ok (.getfield 16, 3) := by decide +kernel
theorem dX12_add_14 : decode cX12_add 14 = .ok (.aload_n 0, 1) := by decide +kernel
theorem dX12_add_15 : decode cX12_add 15 = .ok (.getfield 144, 3) := by decide +kernel
theorem dX12_add_18 : decode cX12_add 18 = .ok (.iload_n 2, 1) := by decide +kernel
theorem dX12_add_19 : decode cX12_add 19 = .ok (.iastore, 1) := by decide +kernel
theorem dX12_add_20 : decode cX12_add 20 = .ok (.aload_n 0, 1) := by decide +kernel
theorem dX12_add_21 : decode cX12_add 21 = .ok (.getfield 19, 3) := by decide +kernel
theorem dX12_add_24 : decode cX12_add 24 = .ok (.aload_n 0, 1) := by decide +kernel
theorem dX12_add_25 : decode cX12_add 25 = .ok (.getfield 144, 3) := by decide +kernel
theorem dX12_add_28 : decode cX12_add 28 = .ok (.lload_n 3, 1) := by decide +kernel
theorem dX12_add_29 : decode cX12_add 29 = .ok (.lastore, 1) := by decide +kernel
theorem dX12_add_30 : decode cX12_add 30 = .ok (.aload_n 0, 1) := by decide +kernel
theorem dX12_add_31 : decode cX12_add 31 = .ok (.getfield 23, 3) := by decide +kernel
theorem dX12_add_34 : decode cX12_add 34 = .ok (.aload_n 0, 1) := by decide +kernel
theorem dX12_add_35 : decode cX12_add 35 = .ok (.getfield 144, 3) := by decide +kernel
theorem dX12_add_38 : decode cX12_add 38 = .ok (.iconst 0, 1) := by decide +kernel
theorem dX12_add_39 : decode cX12_add 39 = .ok (.iastore, 1) := by decide +kernel
theorem dX12_add_40 : decode cX12_add 40 = .ok (.aload_n 0, 1) := by decide +kernel
theorem dX12_add_41 : decode cX12_add 41 = .ok (.dup, 1) := by decide +kernel
theorem dX12_add_42 : decode cX12_add 42 = .ok (.getfield 144, 3) := by decide +kernel
theorem dX12_add_45 : decode cX12_add 45 = .ok (.iconst 1, 1) := by decide +kernel
theorem dX12_add_46 : decode cX12_add 46 = .ok (.iadd, 1) := by decide +kernel
theorem dX12_add_47 : decode cX12_add 47 = .ok (.putfield 144, 3) := by decide +kernel
theorem dX12_add_50 : decode cX12_add 50 = .ok (.return_, 1) := by decide +kernel
theorem dX12_number_0 : decode cX12_number 0 = .ok (.iload_n 1, 1) := by decide +kernel
theorem dX12_number_1 : decode cX12_number 1 = .ok (.istore_n 2, 1) := by decide +kernel
theorem dX12_number_2 : decode cX12_number 2 = .ok (.lconst 0, 1) := by decide +kernel
theorem dX12_number_3 : decode cX12_number 3 = .ok (.lstore_n 3, 1) := by decide +kernel
theorem dX12_number_4 : decode cX12_number 4 = .ok (.aload_n 0, 1) := by decide +kernel
theorem dX12_number_5 : decode cX12_number 5 = .ok (.iload_n 2, 1) := by decide +kernel
theorem dX12_number_6 : decode cX12_number 6 = .ok (.invokevirtual 147, 3) := by decide +kernel
theorem dX12_number_9 : decode cX12_number 9 = .ok (.ifCond .eq 26, 3) := by decide +kernel
theorem dX12_number_12 : decode cX12_number 12 = .ok (.lload_n 3, 1) := by decide +kernel
theorem dX12_number_13 : decode cX12_number 13 = .ok (.ldc2_w 151, 3) := by decide +kernel
theorem dX12_number_16 : decode cX12_number 16 = .ok (.lmul, 1) := by decide +kernel
theorem dX12_number_17 : decode cX12_number 17 = .ok (.aload_n 0, 1) := by decide +kernel
theorem dX12_number_18 : decode cX12_number 18 = .ok (.iload_n 2, 1) := by decide +kernel
theorem dX12_number_19 : decode cX12_number 19 = .ok (.invokevirtual 134, 3) := by decide +kernel
theorem dX12_number_22 : decode cX12_number 22 = .ok (.i2l, 1) := by decide +kernel
theorem dX12_number_23 : decode cX12_number 23 = .ok (.ladd, 1) := by decide +kernel
theorem dX12_number_24 : decode cX12_number 24 = .ok (.ldc2_w 153, 3) := by decide +kernel
theorem dX12_number_27 : decode cX12_number 27 = .ok (.lsub, 1) := by decide +kernel
theorem dX12_number_28 : decode cX12_number 28 = .ok (.lstore_n 3, 1) := by decide +kernel
theorem dX12_number_29 : decode cX12_number 29 = .ok (.iinc 2 1, 3) := by decide +kernel
theorem dX12_number_32 : decode cX12_number 32 = .ok (.goto (-28), 3) := by decide +kernel
theorem dX12_number_35 : decode cX12_number 35 = .ok (.iload_n 2, 1) := by decide +kernel
theorem dX12_number_36 : decode cX12_number 36 = .ok (.iload_n 1, 1) := by decide +kernel
theorem dX12_number_37 : decode cX12_number 37 = .ok (.isub, 1) := by decide +kernel
theorem dX12_number_38 : decode cX12_number 38 = .ok (.istore 5, 2) := by decide +kernel
theorem dX12_number_40 : decode cX12_number 40 = .ok (.iconst 0, 1) := by decide +kernel
theorem dX12_number_41 : decode cX12_number 41 = .ok (.istore 6, 2) := by decide +kernel
theorem dX12_number_43 : decode cX12_number 43 = .ok (.aload_n 0, 1) := by decide +kernel
theorem dX12_number_44 : decode cX12_number 44 = .ok (.iload_n 2, 1) := by decide +kernel
theorem dX12_number_45 : decode cX12_number 45 = .ok (.invokevirtual 134, 3) := by decide +kernel
theorem dX12_number_48 : decode cX12_number 48 = .ok (.bipush 46, 2) := by decide +kernel
theorem dX12_number_50 : decode cX12_number 50 = .ok (.if_icmp .ne 50, 3) := by decide +kernel
theorem dX12_number_53 : decode cX12_number 53 = .ok (.aload_n 0, 1) := by decide +kernel
theorem dX12_number_54 : decode cX12_number 54 = .ok (.iload_n 2, 1) := by decide +kernel
theorem dX12_number_55 : decode cX12_number 55 = .ok (.iconst 1, 1) := by decide +kernel
theorem dX12_number_56 : decode cX12_number 56 = .ok (.iadd, 1) := by decide +kernel
theorem dX12_number_57 : decode cX12_number 57 = .ok (.invokevirtual 147, 3) := by decide +kernel
theorem dX12_number_60 : decode cX12_number 60 = .ok (.ifCond .eq 40, 3) := by decide +kernel
theorem dX12_number_63 : decode cX12_number 63 = .ok (.iinc 2 1, 3) := by decide +kernel
theorem dX12_number_66 : decode cX12_number 66 = .ok (.aload_n 0, 1) := by decide +kernel
theorem dX12_number_67 : decode cX12_number 67 = .ok (.iload_n 2, 1) := by decide +kernel
theorem dX12_number_68 : decode cX12_number 68 = .ok (.invokevirtual 147, 3) := by decide +kernel
theorem dX12_number_71 : decode cX12_number 71 = .ok (.ifCond .eq 29, 3) := by decide +kernel
theorem dX12_number_74 : decode cX12_number 74 = .ok (.lload_n 3, 1) := by decide +kernel
theorem dX12_number_75 : decode cX12_number 75 = .ok (.ldc2_w 151, 3) := by decide +kernel
theorem dX12_number_78 : decode cX12_number 78 = .ok (.lmul, 1) := by decide +kernel
theorem dX12_number_79 : decode cX12_number 79 = .ok (.aload_n 0, 1) := by decide +kernel
theorem dX12_number_80 : decode cX12_number 80 = .ok (.iload_n 2, 1) := by decide +kernel
theorem dX12_number_81 : decode cX12_number 81 = .ok (.invokevirtual 134, 3) := by decide +kernel
theorem dX12_number_84 : decode cX12_number 84 = .ok (.i2l, 1) := by decide +kernel
theorem dX12_number_85 : decode cX12_number 85 = .ok (.ladd, 1) := by decide +kernel
theorem dX12_number_86 : decode cX12_number 86 = .ok (.ldc2_w 153, 3) := by decide +kernel
theorem dX12_number_89 : decode cX12_number 89 = .ok (.lsub, 1) := by decide +kernel
theorem dX12_number_90 : decode cX12_number 90 = .ok (.lstore_n 3, 1) := by decide +kernel
theorem dX12_number_91 : decode cX12_number 91 = .ok (.iinc 2 1, 3) := by decide +kernel
theorem dX12_number_94 : decode cX12_number 94 = .ok (.iinc 6 1, 3) := by decide +kernel
theorem dX12_number_97 : decode cX12_number 97 = .ok (.goto (-31), 3) := by decide +kernel
theorem dX12_number_100 : decode cX12_number 100 = .ok (.iload 5, 2) := by decide +kernel
theorem dX12_number_102 : decode cX12_number 102 = .ok (.bipush 6, 2) := by decide +kernel
theorem dX12_number_104 : decode cX12_number 104 = .ok (.if_icmp .gt 9, 3) := by decide +kernel
theorem dX12_number_107 : decode cX12_number 107 = .ok (.iload 6, 2) := by decide +kernel
theorem dX12_number_109 : decode cX12_number 109 = .ok (.iconst 3, 1) := by decide +kernel
theorem dX12_number_110 : decode cX12_number 110 = .ok (.if_icmp .le 11, 3) := by decide +kernel
theorem dX12_number_113 : decode cX12_number 113 = .ok (.aload_n 0, 1) := by decide +kernel
theorem dX12_number_114 : decode cX12_number 114 = .ok (.iconst 1, 1) := by decide +kernel
theorem dX12_number_115 : decode cX12_number 115 = .ok (.iload_n 1, 1) := by decide +kernel
theorem dX12_number_116 : decode cX12_number 116 = .ok (.invokevirtual 155, 3) := by decide +kernel
theorem dX12_number_119 : decode cX12_number 119 = .ok (.iload_n 2, 1) := by decide +kernel
theorem dX12_number_120 : decode cX12_number 120 = .ok (.ireturn, 1) := by decide +kernel
theorem dX12_number_121 : decode cX12_number 121 = .ok (.aload_n 0, 1) := by decide +kernel
theorem dX12_number_122 : decode cX12_number 122 = .ok (.iload 6, 2) := by decide +kernel
theorem dX12_number_124 : decode cX12_number 124 = .ok (.ifCond .le 7, 3) := by decide +kernel
theorem dX12_number_127 : decode cX12_number 127 = .ok (.iconst 2, 1) := by decide +kernel
theorem dX12_number_128 : decode cX12_number 128 = .ok (.goto 4, 3) := by decide +kernel
theorem dX12_number_131 : decode cX12_number 131 = .ok (.iconst 1, 1) := by decide +kernel
theorem dX12_number_132 : decode cX12_number 132 = .ok (.iload_n 1, 1) := by decide +kernel
theorem dX12_number_133 : decode cX12_number 133 = .ok (.lload_n 3, 1) := by decide +kernel
theorem dX12_number_134 : decode cX12_number 134 = .ok (.invokevirtual 159, 3) := by decide +kernel
theorem dX12_number_137 : decode cX12_number 137 = .ok (.aload_n 0, 1) := by decide +kernel
theorem dX12_number_138 : decode cX12_number 138 = .ok (.getfield 23, 3) := by decide +kernel
theorem dX12_number_141 : decode cX12_number 141 = .ok (.aload_n 0, 1) := by decide +kernel
theorem dX12_number_142 : decode cX12_number 142 = .ok (.getfield 144, 3) := by decide +kernel
theorem dX12_number_145 : decode cX12_number 145 = .ok (.iconst 1, 1) := by decide +kernel
theorem dX12_number_146 : decode cX12_number 146 = .ok (.isub, 1) := by decide +kernel
theorem dX12_number_147 : decode cX12_number 147 = .ok (.iload 6, 2) := by decide +kernel
theorem dX12_number_149 : decode cX12_number 149 = .ok (.iastore, 1) := by decide +kernel
theorem dX12_number_150 : decode cX12_number 150 = .ok (.iload_n 2, 1) := by decide +kernel
theorem dX12_number_151 : decode cX12_number 151 = .ok (.ireturn, 1) := by decide +kernel
theorem dX12_name_0 : decode cX12_name 0 = .ok (.iload_n 1, 1) := by decide +kernel
theorem dX12_name_1 : decode cX12_name 1 = .ok (.istore_n 2, 1) := by decide +kernel
theorem dX12_name_2 : decode cX12_name 2 = .ok (.lconst 0, 1) := by decide +kernel
theorem dX12_name_3 : decode cX12_name 3 = .ok (.lstore_n 3, 1) := by decide +kernel
theorem dX12_name_4 : decode cX12_name 4 = .ok (.aload_n 0, 1) := by decide +kernel
theorem dX12_name_5 : decode cX12_name 5 = .ok (.iload_n 2, 1) := by decide +kernel
theorem dX12_name_6 : decode cX12_name 6 = .ok (.invokevirtual 163, 3) := by decide +kernel
theorem dX12_name_9 : decode cX12_name 9 = .ok (.ifCond .eq 40, 3) := by decide +kernel
theorem dX12_name_12 : decode cX12_name 12 = .ok (.iload_n 2, 1) := by decide +kernel
theorem dX12_name_13 : decode cX12_name 13 = .ok (.iload_n 1, 1) := by decide +kernel
theorem dX12_name_14 : decode cX12_name 14 = .ok (.isub, 1) := by decide +kernel
theorem dX12_name_15 : decode cX12_name 15 = .ok (.bipush 6, 2) := by decide +kernel
theorem dX12_name_17 : decode cX12_name 17 = .ok (.if_icmp .ge 24, 3) := by decide +kernel
theorem dX12_name_20 : decode cX12_name 20 = .ok (.lload_n 3, 1) := by decide +kernel
theorem dX12_name_21 : decode cX12_name 21 = .ok (.ldc2_w 166, 3) := by decide +kernel
theorem dX12_name_24 : decode cX12_name 24 = .ok (.lmul, 1) := by decide +kernel
theorem dX12_name_25 : decode cX12_name 25 = .ok (.aload_n 0, 1) := by decide +kernel
theorem dX12_name_26 : decode cX12_name 26 = .ok (.iload_n 2, 1) := by decide +kernel
theorem dX12_name_27 : decode cX12_name 27 = .ok (.invokevirtual 134, 3) := by decide +kernel
theorem dX12_name_30 : decode cX12_name 30 = .ok (.i2l, 1) := by decide +kernel
theorem dX12_name_31 : decode cX12_name 31 = .ok (.ladd, 1) := by decide +kernel
theorem dX12_name_32 : decode cX12_name 32 = .ok (.ldc2_w 168, 3) := by decide +kernel
theorem dX12_name_35 : decode cX12_name 35 = .ok (.lsub, 1) := by decide +kernel
theorem dX12_name_36 : decode cX12_name 36 = .ok (.lconst 1, 1) := by decide +kernel
theorem dX12_name_37 : decode cX12_name 37 = .ok (.ladd, 1) := by decide +kernel
theorem dX12_name_38 : decode cX12_name 38 = .ok (.goto 4, 3) := by decide +kernel
theorem dX12_name_41 : decode cX12_name 41 = .ok (.lload_n 3, 1) := by decide +kernel
theorem dX12_name_42 : decode cX12_name 42 = .ok (.lstore_n 3, 1) := by decide +kernel
theorem dX12_name_43 : decode cX12_name 43 = .ok (.iinc 2 1, 3) := by decide +kernel
theorem dX12_name_46 : decode cX12_name 46 = .ok (.goto (-42), 3) := by decide +kernel
theorem dX12_name_49 : decode cX12_name 49 = .ok (.iload_n 2, 1) := by decide +kernel
theorem dX12_name_50 : decode cX12_name 50 = .ok (.iload_n 1, 1) := by decide +kernel
theorem dX12_name_51 : decode cX12_name 51 = .ok (.isub, 1) := by decide +kernel
theorem dX12_name_52 : decode cX12_name 52 = .ok (.iconst 5, 1) := by decide +kernel
theorem dX12_name_53 : decode cX12_name 53 = .ok (.if_icmp .le 12, 3) := by decide +kernel
theorem dX12_name_56 : decode cX12_name 56 = .ok (.aload_n 0, 1) := by decide +kernel
theorem dX12_name_57 : decode cX12_name 57 = .ok (.iconst 1, 1) := by decide +kernel
theorem dX12_name_58 : decode cX12_name 58 = .ok (.iload_n 1, 1) := by decide +kernel
theorem dX12_name_59 : decode cX12_name 59 = .ok (.invokevirtual 155, 3) := by decide +kernel
theorem dX12_name_62 : decode cX12_name 62 = .ok (.goto 10, 3) := by decide +kernel
theorem dX12_name_65 : decode cX12_name 65 = .ok (.aload_n 0, 1) := by decide +kernel
theorem dX12_name_66 : decode cX12_name 66 = .ok (.iconst 3, 1) := by decide +kernel
theorem dX12_name_67 : decode cX12_name 67 = .ok (.iload_n 1, 1) := by decide +kernel
theorem dX12_name_68 : decode cX12_name 68 = .ok (.lload_n 3, 1) := by decide +kernel
theorem dX12_name_69 : decode cX12_name 69 = .ok (.invokevirtual 159, 3) := by decide +kernel
theorem dX12_name_72 : decode cX12_name 72 = .ok (.iload_n 2, 1) := by decide +kernel
theorem dX12_name_73 : decode cX12_name 73 = .ok (.ireturn, 1) := by decide +kernel
theorem dX12_quoted_0 : decode cX12_quoted 0 = .ok (.iload_n 1, 1) := by decide +kernel
theorem dX12_quoted_1 : decode cX12_quoted 1 = .ok (.iconst 1, 1) := by decide +kernel
theorem dX12_quoted_2 : decode cX12_quoted 2 = .ok (.iadd, 1) := by decide +kernel
theorem dX12_quoted_3 : decode cX12_quoted 3 = .ok (.istore_n 2, 1) := by decide +kernel
theorem dX12_quoted_4 : decode cX12_quoted 4 = .ok (.lconst 0, 1) := by decide +kernel
theorem dX12_quoted_5 : decode cX12_quoted 5 = .ok (.lstore_n 3, 1) := by decide +kernel
theorem dX12_quoted_6 : decode cX12_quoted 6 = .ok (.iload_n 2, 1) := by decide +kernel
theorem dX12_quoted_7 : decode cX12_quoted 7 = .ok (.aload_n 0, 1) := by decide +kernel
theorem dX12_quoted_8 : decode cX12_quoted 8 = .ok (.getfield 131, 3) := by decide +kernel
theorem dX12_quoted_11 : decode cX12_quoted 11 = .ok (.if_icmp .ge 45, 3) := by decide +kernel
theorem dX12_quoted_14 : decode cX12_quoted 14 = .ok (.aload_n 0, 1) := by decide +kernel
theorem dX12_quoted_15 : decode cX12_quoted 15 = .ok (.iload_n 2, 1) := by decide +kernel
theorem dX12_quoted_16 : decode cX12_quoted 16 = .ok (.invokevirtual 134, 3) := by decide +kernel
theorem dX12_quoted_19 : decode cX12_quoted 19 = .ok (.bipush 39, 2) := by decide +kernel
theorem dX12_quoted_21 : decode cX12_quoted 21 = .ok (.if_icmp .eq 35, 3) := by decide +kernel
theorem dX12_quoted_24 : decode cX12_quoted 24 = .ok (.iload_n 2, 1) := by decide +kernel
theorem dX12_quoted_25 : decode cX12_quoted 25 = .ok (.iload_n 1, 1) := by decide +kernel
theorem dX12_quoted_26 : decode cX12_quoted 26 = .ok (.isub, 1) := by decide +kernel
theorem dX12_quoted_27 : decode cX12_quoted 27 = .ok (.bipush 8, 2) := by decide +kernel
theorem dX12_quoted_29 : decode cX12_quoted 29 = .ok (.if_icmp .gt 27, 3) := by decide +kernel
theorem dX12_quoted_32 : decode cX12_quoted 32 = .ok (.lload_n 3, 1) := by decide +kernel
theorem dX12_quoted_33 : decode cX12_quoted 33 = .ok (.aload_n 0, 1) := by decide +kernel
theorem dX12_quoted_34 : decode cX12_quoted 34 = .ok (.iload_n 2, 1) := by decide +kernel
theorem dX12_quoted_35 : decode cX12_quoted 35 = .ok (.invokevirtual 134, 3) := by decide +kernel
theorem dX12_quoted_38 : decode cX12_quoted 38 = .ok (.i2l, 1) := by decide +kernel
theorem dX12_quoted_39 : decode cX12_quoted 39 = .ok (.bipush 7, 2) := by decide +kernel
theorem dX12_quoted_41 : decode cX12_quoted 41 = .ok (.iload_n 2, 1) := by decide +kernel
theorem dX12_quoted_42 : decode cX12_quoted 42 = .ok (.iload_n 1, 1) := by decide +kernel
theorem dX12_quoted_43 : decode cX12_quoted 43 = .ok (.isub, 1) := by decide +kernel
theorem dX12_quoted_44 : decode cX12_quoted 44 = .ok (.iconst 1, 1) := by decide +kernel
theorem dX12_quoted_45 : decode cX12_quoted 45 = .ok (.isub, 1) := by decide +kernel
theorem dX12_quoted_46 : decode cX12_quoted 46 = .ok (.imul, 1) := by decide +kernel
theorem dX12_quoted_47 : decode cX12_quoted 47 = .ok (.lshl, 1) := by decide +kernel
theorem dX12_quoted_48 : decode cX12_quoted 48 = .ok (.lor, 1) := by decide +kernel
theorem dX12_quoted_49 : decode cX12_quoted 49 = .ok (.lstore_n 3, 1) := by decide +kernel
theorem dX12_quoted_50 : decode cX12_quoted 50 = .ok (.iinc 2 1, 3) := by decide +kernel
theorem dX12_quoted_53 : decode cX12_quoted 53 = .ok (.goto (-47), 3) := by decide +kernel
theorem dX12_quoted_56 : decode cX12_quoted 56 = .ok (.aload_n 0, 1) := by decide +kernel
theorem dX12_quoted_57 : decode cX12_quoted 57 = .ok (.iload_n 2, 1) := by decide +kernel
theorem dX12_quoted_58 : decode cX12_quoted 58 = .ok (.invokevirtual 134, 3) := by decide +kernel
theorem dX12_quoted_61 : decode cX12_quoted 61 = .ok (.bipush 39, 2) := by decide +kernel
theorem dX12_quoted_63 : decode cX12_quoted 63 = .ok (.if_icmp .eq 14, 3) := by decide +kernel
theorem dX12_quoted_66 : decode cX12_quoted 66 = .ok (.aload_n 0, 1) := by decide +kernel
theorem dX12_quoted_67 : decode cX12_quoted 67 = .ok (.iconst 1, 1) := by decide +kernel
theorem dX12_quoted_68 : decode cX12_quoted 68 = .ok (.iload_n 1, 1) := by decide +kernel
theorem dX12_quoted_69 : decode cX12_quoted 69 = .ok (.invokevirtual 155, 3) := by decide +kernel
theorem dX12_quoted_72 : decode cX12_quoted 72 = .ok (.aload_n 0, 1) := by decide +kernel
theorem dX12_quoted_73 : decode cX12_quoted 73 = .ok (.getfield 131, 3) := by decide +kernel
theorem dX12_quoted_76 : decode cX12_quoted 76 = .ok (.ireturn, 1) := by decide +kernel
theorem dX12_quoted_77 : decode cX12_quoted 77 = .ok (.aload_n 0, 1) := by decide +kernel
theorem dX12_quoted_78 : decode cX12_quoted 78 = .ok (.iconst 4, 1) := by decide +kernel
theorem dX12_quoted_79 : decode cX12_quoted 79 = .ok (.iload_n 1, 1) := by decide +kernel
theorem dX12_quoted_80 : decode cX12_quoted 80 = .ok (.lload_n 3, 1) := by decide +kernel
theorem dX12_quoted_81 : decode cX12_quoted 81 = .ok (.iload_n 2, 1) := by decide +kernel
theorem dX12_quoted_82 : decode cX12_quoted 82 = .ok (.iload_n 1, 1) := by decide +kernel
theorem dX12_quoted_83 : decode cX12_quoted 83 = .ok (.isub, 1) := by decide +kernel
theorem dX12_quoted_84 : decode cX12_quoted 84 = .ok (.iconst 1, 1) := by decide +kernel
theorem dX12_quoted_85 : decode cX12_quoted 85 = .ok (.isub, 1) := by decide +kernel
theorem dX12_quoted_86 : decode cX12_quoted 86 = .ok (.i2l, 1) := by decide +kernel
theorem dX12_quoted_87 : decode cX12_quoted 87 = .ok (.bipush 56, 2) := by decide +kernel
theorem dX12_quoted_89 : decode cX12_quoted 89 = .ok (.lshl, 1) := by decide +kernel
theorem dX12_quoted_90 : decode cX12_quoted 90 = .ok (.lor, 1) := by decide +kernel
theorem dX12_quoted_91 : decode cX12_quoted 91 = .ok (.invokevirtual 159, 3) := by decide +kernel
theorem dX12_quoted_94 : decode cX12_quoted 94 = .ok (.iload_n 2, 1) := by decide +kernel
theorem dX12_quoted_95 : decode cX12_quoted 95 = .ok (.iconst 1, 1) := by decide +kernel
theorem dX12_quoted_96 : decode cX12_quoted 96 = .ok (.iadd, 1) := by decide +kernel
theorem dX12_quoted_97 : decode cX12_quoted 97 = .ok (.ireturn, 1) := by decide +kernel
theorem dX12_single_0 : decode cX12_single 0 = .ok (.iload_n 0, 1) := by decide +kernel
theorem dX12_single_1 : decode cX12_single 1 = .ok (.bipush 43, 2) := by decide +kernel
theorem dX12_single_3 : decode cX12_single 3 = .ok (.if_icmp .eq 93, 3) := by decide +kernel
theorem dX12_single_6 : decode cX12_single 6 = .ok (.iload_n 0, 1) := by decide +kernel
theorem dX12_single_7 : decode cX12_single 7 = .ok (.bipush 45, 2) := by decide +kernel
theorem dX12_single_9 : decode cX12_single 9 = .ok (.if_icmp .eq 87, 3) := by decide +kernel
theorem dX12_single_12 : decode cX12_single 12 = .ok (.iload_n 0, 1) := by decide +kernel
theorem dX12_single_13 : decode cX12_single 13 = .ok (.bipush 42, 2) := by decide +kernel
theorem dX12_single_15 : decode cX12_single 15 = .ok (.if_icmp .eq 81, 3) := by decide +kernel
theorem dX12_single_18 : decode cX12_single 18 = .ok (.iload_n 0, 1) := by decide +kernel
theorem dX12_single_19 : decode cX12_single 19 = .ok (.bipush 47, 2) := by decide +kernel
theorem dX12_single_21 : decode cX12_single 21 = .ok (.if_icmp .eq 75, 3) := by decide +kernel
theorem dX12_single_24 : decode cX12_single 24 = .ok (.iload_n 0, 1) := by decide +kernel
theorem dX12_single_25 : decode cX12_single 25 = .ok (.bipush 37, 2) := by decide +kernel
theorem dX12_single_27 : decode cX12_single 27 = .ok (.if_icmp .eq 69, 3) := by decide +kernel
theorem dX12_single_30 : decode cX12_single 30 = .ok (.iload_n 0, 1) := by decide +kernel
theorem dX12_single_31 : decode cX12_single 31 = .ok (.bipush 60, 2) := by decide +kernel
theorem dX12_single_33 : decode cX12_single 33 = .ok (.if_icmp .eq 63, 3) := by decide +kernel
theorem dX12_single_36 : decode cX12_single 36 = .ok (.iload_n 0, 1) := by decide +kernel
theorem dX12_single_37 : decode cX12_single 37 = .ok (.bipush 62, 2) := by decide +kernel
theorem dX12_single_39 : decode cX12_single 39 = .ok (.if_icmp .eq 57, 3) := by decide +kernel
theorem dX12_single_42 : decode cX12_single 42 = .ok (.iload_n 0, 1) := by decide +kernel
theorem dX12_single_43 : decode cX12_single 43 = .ok (.bipush 33, 2) := by decide +kernel
theorem dX12_single_45 : decode cX12_single 45 = .ok (.if_icmp .eq 51, 3) := by decide +kernel
theorem dX12_single_48 : decode cX12_single 48 = .ok (.iload_n 0, 1) := by decide +kernel
theorem dX12_single_49 : decode cX12_single 49 = .ok (.bipush 63, 2) := by decide +kernel
theorem dX12_single_51 : decode cX12_single 51 = .ok (.if_icmp .eq 45, 3) := by decide +kernel
theorem dX12_single_54 : decode cX12_single 54 = .ok (.iload_n 0, 1) := by decide +kernel
theorem dX12_single_55 : decode cX12_single 55 = .ok (.bipush 58, 2) := by decide +kernel
theorem dX12_single_57 : decode cX12_single 57 = .ok (.if_icmp .eq 39, 3) := by decide +kernel
theorem dX12_single_60 : decode cX12_single 60 = .ok (.iload_n 0, 1) := by decide +kernel
theorem dX12_single_61 : decode cX12_single 61 = .ok (.bipush 46, 2) := by decide +kernel
theorem dX12_single_63 : decode cX12_single 63 = .ok (.if_icmp .eq 33, 3) := by decide +kernel
theorem dX12_single_66 : decode cX12_single 66 = .ok (.iload_n 0, 1) := by decide +kernel
theorem dX12_single_67 : decode cX12_single 67 = .ok (.bipush 40, 2) := by decide +kernel
theorem dX12_single_69 : decode cX12_single 69 = .ok (.if_icmp .eq 27, 3) := by decide +kernel
theorem dX12_single_72 : decode cX12_single 72 = .ok (.iload_n 0, 1) := by decide +kernel
theorem dX12_single_73 : decode cX12_single 73 = .ok (.bipush 41, 2) := by decide +kernel
theorem dX12_single_75 : decode cX12_single 75 = .ok (.if_icmp .eq 21, 3) := by decide +kernel
theorem dX12_single_78 : decode cX12_single 78 = .ok (.iload_n 0, 1) := by decide +kernel
theorem dX12_single_79 : decode cX12_single 79 = .ok (.bipush 44, 2) := by decide +kernel
theorem dX12_single_81 : decode cX12_single 81 = .ok (.if_icmp .eq 15, 3) := by decide +kernel
theorem dX12_single_84 : decode cX12_single 84 = .ok (.iload_n 0, 1) := by decide +kernel
theorem dX12_single_85 : decode cX12_single 85 = .ok (.bipush 35, 2) := by decide +kernel
theorem dX12_single_87 : decode cX12_single 87 = .ok (.if_icmp .eq 9, 3) := by decide +kernel
theorem dX12_single_90 : decode cX12_single 90 = .ok (.iload_n 0, 1) := by decide +kernel
theorem dX12_single_91 : decode cX12_single 91 = .ok (.bipush 61, 2) := by decide +kernel
theorem dX12_single_93 : decode cX12_single 93 = .ok (.if_icmp .ne 7, 3) := by decide +kernel
theorem dX12_single_96 : decode cX12_single 96 = .ok (.iconst 1, 1) := by decide +kernel
theorem dX12_single_97 : decode cX12_single 97 = .ok (.goto 4, 3) := by decide +kernel
theorem dX12_single_100 : decode cX12_single 100 = .ok (.iconst 0, 1) := by decide +kernel
theorem dX12_single_101 : decode cX12_single 101 = .ok (.ireturn, 1) := by decide +kernel
theorem dX12_twice_0 : decode cX12_twice 0 = .ok (.iload_n 1, 1) := by decide +kernel
theorem dX12_twice_1 : decode cX12_twice 1 = .ok (.bipush 61, 2) := by decide +kernel
theorem dX12_twice_3 : decode cX12_twice 3 = .ok (.if_icmp .ne 27, 3) := by decide +kernel
theorem dX12_twice_6 : decode cX12_twice 6 = .ok (.iload_n 0, 1) := by decide +kernel
theorem dX12_twice_7 : decode cX12_twice 7 = .ok (.bipush 60, 2) := by decide +kernel
theorem dX12_twice_9 : decode cX12_twice 9 = .ok (.if_icmp .eq 63, 3) := by decide +kernel
theorem dX12_twice_12 : decode cX12_twice 12 = .ok (.iload_n 0, 1) := by decide +kernel
theorem dX12_twice_13 : decode cX12_twice 13 = .ok (.bipush 62, 2) := by decide +kernel
theorem dX12_twice_15 : decode cX12_twice 15 = .ok (.if_icmp .eq 57, 3) := by decide +kernel
theorem dX12_twice_18 : decode cX12_twice 18 = .ok (.iload_n 0, 1) := by decide +kernel
theorem dX12_twice_19 : decode cX12_twice 19 = .ok (.bipush 61, 2) := by decide +kernel
theorem dX12_twice_21 : decode cX12_twice 21 = .ok (.if_icmp .eq 51, 3) := by decide +kernel
theorem dX12_twice_24 : decode cX12_twice 24 = .ok (.iload_n 0, 1) := by decide +kernel
theorem dX12_twice_25 : decode cX12_twice 25 = .ok (.bipush 33, 2) := by decide +kernel
theorem dX12_twice_27 : decode cX12_twice 27 = .ok (.if_icmp .eq 45, 3) := by decide +kernel
theorem dX12_twice_30 : decode cX12_twice 30 = .ok (.iload_n 0, 1) := by decide +kernel
theorem dX12_twice_31 : decode cX12_twice 31 = .ok (.bipush 38, 2) := by decide +kernel
theorem dX12_twice_33 : decode cX12_twice 33 = .ok (.if_icmp .ne 9, 3) := by decide +kernel
theorem dX12_twice_36 : decode cX12_twice 36 = .ok (.iload_n 1, 1) := by decide +kernel
theorem dX12_twice_37 : decode cX12_twice 37 = .ok (.bipush 38, 2) := by decide +kernel
theorem dX12_twice_39 : decode cX12_twice 39 = .ok (.if_icmp .eq 33, 3) := by decide +kernel
theorem dX12_twice_42 : decode cX12_twice 42 = .ok (.iload_n 0, 1) := by decide +kernel
theorem dX12_twice_43 : decode cX12_twice 43 = .ok (.bipush 124, 2) := by decide +kernel
theorem dX12_twice_45 : decode cX12_twice 45 = .ok (.if_icmp .ne 9, 3) := by decide +kernel
theorem dX12_twice_48 : decode cX12_twice 48 = .ok (.iload_n 1, 1) := by decide +kernel
theorem dX12_twice_49 : decode cX12_twice 49 = .ok (.bipush 124, 2) := by decide +kernel
theorem dX12_twice_51 : decode cX12_twice 51 = .ok (.if_icmp .eq 21, 3) := by decide +kernel
theorem dX12_twice_54 : decode cX12_twice 54 = .ok (.iload_n 0, 1) := by decide +kernel
theorem dX12_twice_55 : decode cX12_twice 55 = .ok (.bipush 63, 2) := by decide +kernel
theorem dX12_twice_57 : decode cX12_twice 57 = .ok (.if_icmp .ne 19, 3) := by decide +kernel
theorem dX12_twice_60 : decode cX12_twice 60 = .ok (.iload_n 1, 1) := by decide +kernel
theorem dX12_twice_61 : decode cX12_twice 61 = .ok (.bipush 58, 2) := by decide +kernel
theorem dX12_twice_63 : decode cX12_twice 63 = .ok (.if_icmp .eq 9, 3) := by decide +kernel
theorem dX12_twice_66 : decode cX12_twice 66 = .ok (.iload_n 1, 1) := by decide +kernel
theorem dX12_twice_67 : decode cX12_twice 67 = .ok (.bipush 46, 2) := by decide +kernel
theorem dX12_twice_69 : decode cX12_twice 69 = .ok (.if_icmp .ne 7, 3) := by decide +kernel
theorem dX12_twice_72 : decode cX12_twice 72 = .ok (.iconst 1, 1) := by decide +kernel
theorem dX12_twice_73 : decode cX12_twice 73 = .ok (.goto 4, 3) := by decide +kernel
theorem dX12_twice_76 : decode cX12_twice 76 = .ok (.iconst 0, 1) := by decide +kernel
theorem dX12_twice_77 : decode cX12_twice 77 = .ok (.ireturn, 1) := by decide +kernel
theorem dX12_sign_0 : decode cX12_sign 0 = .ok (.aload_n 0, 1) := by decide +kernel
theorem dX12_sign_1 : decode cX12_sign 1 = .ok (.iload_n 1, 1) := by decide +kernel
theorem dX12_sign_2 : decode cX12_sign 2 = .ok (.invokevirtual 134, 3) := by decide +kernel
theorem dX12_sign_5 : decode cX12_sign 5 = .ok (.istore_n 2, 1) := by decide +kernel
theorem dX12_sign_6 : decode cX12_sign 6 = .ok (.iload_n 2, 1) := by decide +kernel
theorem dX12_sign_7 : decode cX12_sign 7 = .ok (.aload_n 0, 1) := by decide +kernel
theorem dX12_sign_8 : decode cX12_sign 8 = .ok (.iload_n 1, 1) := by decide +kernel
theorem dX12_sign_9 : decode cX12_sign 9 = .ok (.iconst 1, 1) := by decide +kernel
theorem dX12_sign_10 : decode cX12_sign 10 = .ok (.iadd, 1) := by decide +kernel
theorem dX12_sign_11 : decode cX12_sign 11 = .ok (.invokevirtual 134, 3) := by decide +kernel
theorem dX12_sign_14 : decode cX12_sign 14 = .ok (.invokestatic 170, 3) := by decide +kernel
theorem dX12_sign_17 : decode cX12_sign 17 = .ok (.ifCond .eq 28, 3) := by decide +kernel
theorem dX12_sign_20 : decode cX12_sign 20 = .ok (.aload_n 0, 1) := by decide +kernel
theorem dX12_sign_21 : decode cX12_sign 21 = .ok (.iconst 5, 1) := by decide +kernel
theorem dX12_sign_22 : decode cX12_sign 22 = .ok (.iload_n 1, 1) := by decide +kernel
theorem dX12_sign_23 : decode cX12_sign 23 = .ok (.ldc2_w 174, 3) := by decide +kernel
theorem dX12_sign_26 : decode cX12_sign 26 = .ok (.iload_n 2, 1) := by decide +kernel
theorem dX12_sign_27 : decode cX12_sign 27 = .ok (.i2l, 1) := by decide +kernel
theorem dX12_sign_28 : decode cX12_sign 28 = .ok (.lmul, 1) := by decide +kernel
theorem dX12_sign_29 : decode cX12_sign 29 = .ok (.aload_n 0, 1) := by decide +kernel
theorem dX12_sign_30 : decode cX12_sign 30 = .ok (.iload_n 1, 1) := by decide +kernel
theorem dX12_sign_31 : decode cX12_sign 31 = .ok (.iconst 1, 1) := by decide +kernel
theorem dX12_sign_32 : decode cX12_sign 32 = .ok (.iadd, 1) := by decide +kernel
theorem dX12_sign_33 : decode cX12_sign 33 = .ok (.invokevirtual 134, 3) := by decide +kernel
theorem dX12_sign_36 : decode cX12_sign 36 = .ok (.i2l, 1) := by decide +kernel
theorem dX12_sign_37 : decode cX12_sign 37 = .ok (.ladd, 1) := by decide +kernel
theorem dX12_sign_38 : decode cX12_sign 38 = .ok (.invokevirtual 159, 3) := by decide +kernel
theorem dX12_sign_41 : decode cX12_sign 41 = .ok (.iload_n 1, 1) := by decide +kernel
theorem dX12_sign_42 : decode cX12_sign 42 = .ok (.iconst 2, 1) := by decide +kernel
theorem dX12_sign_43 : decode cX12_sign 43 = .ok (.iadd, 1) := by decide +kernel
theorem dX12_sign_44 : decode cX12_sign 44 = .ok (.ireturn, 1) := by decide +kernel
theorem dX12_sign_45 : decode cX12_sign 45 = .ok (.iload_n 2, 1) := by decide +kernel
theorem dX12_sign_46 : decode cX12_sign 46 = .ok (.invokestatic 176, 3) := by decide +kernel
theorem dX12_sign_49 : decode cX12_sign 49 = .ok (.ifCond .eq 14, 3) := by decide +kernel
theorem dX12_sign_52 : decode cX12_sign 52 = .ok (.aload_n 0, 1) := by decide +kernel
theorem dX12_sign_53 : decode cX12_sign 53 = .ok (.iconst 5, 1) := by decide +kernel
theorem dX12_sign_54 : decode cX12_sign 54 = .ok (.iload_n 1, 1) := by decide +kernel
theorem dX12_sign_55 : decode cX12_sign 55 = .ok (.iload_n 2, 1) := by decide +kernel
theorem dX12_sign_56 : decode cX12_sign 56 = .ok (.i2l, 1) := by decide +kernel
theorem dX12_sign_57 : decode cX12_sign 57 = .ok (.invokevirtual 159, 3) := by decide +kernel
theorem dX12_sign_60 : decode cX12_sign 60 = .ok (.goto 9, 3) := by decide +kernel
theorem dX12_sign_63 : decode cX12_sign 63 = .ok (.aload_n 0, 1) := by decide +kernel
theorem dX12_sign_64 : decode cX12_sign 64 = .ok (.iconst 1, 1) := by decide +kernel
theorem dX12_sign_65 : decode cX12_sign 65 = .ok (.iload_n 1, 1) := by decide +kernel
theorem dX12_sign_66 : decode cX12_sign 66 = .ok (.invokevirtual 155, 3) := by decide +kernel
theorem dX12_sign_69 : decode cX12_sign 69 = .ok (.iload_n 1, 1) := by decide +kernel
theorem dX12_sign_70 : decode cX12_sign 70 = .ok (.iconst 1, 1) := by decide +kernel
theorem dX12_sign_71 : decode cX12_sign 71 = .ok (.iadd, 1) := by decide +kernel
theorem dX12_sign_72 : decode cX12_sign 72 = .ok (.ireturn, 1) := by decide +kernel
theorem dX12_cut_0 : decode cX12_cut 0 = .ok (.aload_n 0, 1) := by decide +kernel
theorem dX12_cut_1 : decode cX12_cut 1 = .ok (.iconst 0, 1) := by decide +kernel
theorem dX12_cut_2 : decode cX12_cut 2 = .ok (.putfield 144, 3) := by decide +kernel
theorem dX12_cut_5 : decode cX12_cut 5 = .ok (.iconst 0, 1) := by decide +kernel
theorem dX12_cut_6 : decode cX12_cut 6 = .ok (.istore_n 1, 1) := by decide +kernel
theorem dX12_cut_7 : decode cX12_cut 7 = .ok (.iload_n 1, 1) := by decide +kernel
theorem dX12_cut_8 : decode cX12_cut 8 = .ok (.aload_n 0, 1) := by decide +kernel
theorem dX12_cut_9 : decode cX12_cut 9 = .ok (.getfield 131, 3) := by decide +kernel
theorem dX12_cut_12 : decode cX12_cut 12 = .ok (.if_icmp .ge 85, 3) := by decide +kernel
theorem dX12_cut_15 : decode cX12_cut 15 = .ok (.aload_n 0, 1) := by decide +kernel
theorem dX12_cut_16 : decode cX12_cut 16 = .ok (.getfield 138, 3) := by decide +kernel
theorem dX12_cut_19 : decode cX12_cut 19 = .ok (.ifCond .ne 78, 3) := by decide +kernel
theorem dX12_cut_22 : decode cX12_cut 22 = .ok (.aload_n 0, 1) := by decide +kernel
theorem dX12_cut_23 : decode cX12_cut 23 = .ok (.iload_n 1, 1) := by decide +kernel
theorem dX12_cut_24 : decode cX12_cut 24 = .ok (.invokevirtual 134, 3) := by decide +kernel
theorem dX12_cut_27 : decode cX12_cut 27 = .ok (.bipush 32, 2) := by decide +kernel
theorem dX12_cut_29 : decode cX12_cut 29 = .ok (.if_icmp .ne 9, 3) := by decide +kernel
theorem dX12_cut_32 : decode cX12_cut 32 = .ok (.iinc 1 1, 3) := by decide +kernel
theorem dX12_cut_35 : decode cX12_cut 35 = .ok (.goto (-28), 3) := by decide +kernel
theorem dX12_cut_38 : decode cX12_cut 38 = .ok (.aload_n 0, 1) := by decide +kernel
theorem dX12_cut_39 : decode cX12_cut 39 = .ok (.iload_n 1, 1) := by decide +kernel
theorem dX12_cut_40 : decode cX12_cut 40 = .ok (.invokevirtual 147, 3) := by decide +kernel
theorem dX12_cut_43 : decode cX12_cut 43 = .ok (.ifCond .eq 11, 3) := by decide +kernel
theorem dX12_cut_46 : decode cX12_cut 46 = .ok (.aload_n 0, 1) := by decide +kernel
theorem dX12_cut_47 : decode cX12_cut 47 = .ok (.iload_n 1, 1) := by decide +kernel
theorem dX12_cut_48 : decode cX12_cut 48 = .ok (.invokevirtual 179, 3) := by decide +kernel
theorem dX12_cut_51 : decode cX12_cut 51 = .ok (.goto 42, 3) := by decide +kernel
theorem dX12_cut_54 : decode cX12_cut 54 = .ok (.aload_n 0, 1) := by decide +kernel
theorem dX12_cut_55 : decode cX12_cut 55 = .ok (.iload_n 1, 1) := by decide +kernel
theorem dX12_cut_56 : decode cX12_cut 56 = .ok (.invokevirtual 163, 3) := by decide +kernel
theorem dX12_cut_59 : decode cX12_cut 59 = .ok (.ifCond .eq 11, 3) := by decide +kernel
theorem dX12_cut_62 : decode cX12_cut 62 = .ok (.aload_n 0, 1) := by decide +kernel
theorem dX12_cut_63 : decode cX12_cut 63 = .ok (.iload_n 1, 1) := by decide +kernel
theorem dX12_cut_64 : decode cX12_cut 64 = .ok (.invokevirtual 182, 3) := by decide +kernel
theorem dX12_cut_67 : decode cX12_cut 67 = .ok (.goto 26, 3) := by decide +kernel
theorem dX12_cut_70 : decode cX12_cut 70 = .ok (.aload_n 0, 1) := by decide +kernel
theorem dX12_cut_71 : decode cX12_cut 71 = .ok (.iload_n 1, 1) := by decide +kernel
theorem dX12_cut_72 : decode cX12_cut 72 = .ok (.invokevirtual 134, 3) := by decide +kernel
theorem dX12_cut_75 : decode cX12_cut 75 = .ok (.bipush 39, 2) := by decide +kernel
theorem dX12_cut_77 : decode cX12_cut 77 = .ok (.if_icmp .ne 11, 3) := by decide +kernel
theorem dX12_cut_80 : decode cX12_cut 80 = .ok (.aload_n 0, 1) := by decide +kernel
theorem dX12_cut_81 : decode cX12_cut 81 = .ok (.iload_n 1, 1) := by decide +kernel
theorem dX12_cut_82 : decode cX12_cut 82 = .ok (.invokevirtual 185, 3) := by decide +kernel
theorem dX12_cut_85 : decode cX12_cut 85 = .ok (.goto 8, 3) := by decide +kernel
theorem dX12_cut_88 : decode cX12_cut 88 = .ok (.aload_n 0, 1) := by decide +kernel
theorem dX12_cut_89 : decode cX12_cut 89 = .ok (.iload_n 1, 1) := by decide +kernel
theorem dX12_cut_90 : decode cX12_cut 90 = .ok (.invokevirtual 188, 3) := by decide +kernel
theorem dX12_cut_93 : decode cX12_cut 93 = .ok (.istore_n 1, 1) := by decide +kernel
theorem dX12_cut_94 : decode cX12_cut 94 = .ok (.goto (-87), 3) := by decide +kernel
theorem dX12_cut_97 : decode cX12_cut 97 = .ok (.aload_n 0, 1) := by decide +kernel
theorem dX12_cut_98 : decode cX12_cut 98 = .ok (.iconst 0, 1) := by decide +kernel
theorem dX12_cut_99 : decode cX12_cut 99 = .ok (.aload_n 0, 1) := by decide +kernel
theorem dX12_cut_100 : decode cX12_cut 100 = .ok (.getfield 131, 3) := by decide +kernel
theorem dX12_cut_103 : decode cX12_cut 103 = .ok (.lconst 0, 1) := by decide +kernel
theorem dX12_cut_104 : decode cX12_cut 104 = .ok (.invokevirtual 159, 3) := by decide +kernel
theorem dX12_cut_107 : decode cX12_cut 107 = .ok (.return_, 1) := by decide +kernel
theorem dX12_isSign_0 : decode cX12_isSign 0 = .ok (.aload_n 0, 1) := by decide +kernel
theorem dX12_isSign_1 : decode cX12_isSign 1 = .ok (.getfield 13, 3) := by decide +kernel
theorem dX12_isSign_4 : decode cX12_isSign 4 = .ok (.aload_n 0, 1) := by decide +kernel
theorem dX12_isSign_5 : decode cX12_isSign 5 = .ok (.getfield 190, 3) := by decide +kernel
theorem dX12_isSign_8 : decode cX12_isSign 8 = .ok (.iaload, 1) := by decide +kernel
theorem dX12_isSign_9 : decode cX12_isSign 9 = .ok (.iconst 5, 1) := by decide +kernel
theorem dX12_isSign_10 : decode cX12_isSign 10 = .ok (.if_icmp .ne 22, 3) := by decide +kernel
theorem dX12_isSign_13 : decode cX12_isSign 13 = .ok (.aload_n 0, 1) := by decide +kernel
theorem dX12_isSign_14 : decode cX12_isSign 14 = .ok (.getfield 19, 3) := by decide +kernel
theorem dX12_isSign_17 : decode cX12_isSign 17 = .ok (.aload_n 0, 1) := by decide +kernel
theorem dX12_isSign_18 : decode cX12_isSign 18 = .ok (.getfield 190, 3) := by decide +kernel
theorem dX12_isSign_21 : decode cX12_isSign 21 = .ok (.laload, 1) := by decide +kernel
theorem dX12_isSign_22 : decode cX12_isSign 22 = .ok (.iload_n 1, 1) := by decide +kernel
theorem dX12_isSign_23 : decode cX12_isSign 23 = .ok (.i2l, 1) := by decide +kernel
theorem dX12_isSign_24 : decode cX12_isSign 24 = .ok (.lcmp, 1) := by decide +kernel
theorem dX12_isSign_25 : decode cX12_isSign 25 = .ok (.ifCond .ne 7, 3) := by decide +kernel
theorem dX12_isSign_28 : decode cX12_isSign 28 = .ok (.iconst 1, 1) := by decide +kernel
theorem dX12_isSign_29 : decode cX12_isSign 29 = .ok (.goto 4, 3) := by decide +kernel
theorem dX12_isSign_32 : decode cX12_isSign 32 = .ok (.iconst 0, 1) := by decide +kernel
theorem dX12_isSign_33 : decode cX12_isSign 33 = .ok (.ireturn, 1) := by decide +kernel
theorem dX12_misfit_0 : decode cX12_misfit 0 = .ok (.aload_n 0, 1) := by decide +kernel
theorem dX12_misfit_1 : decode cX12_misfit 1 = .ok (.iconst 2, 1) := by decide +kernel
theorem dX12_misfit_2 : decode cX12_misfit 2 = .ok (.aload_n 0, 1) := by decide +kernel
theorem dX12_misfit_3 : decode cX12_misfit 3 = .ok (.getfield 16, 3) := by decide +kernel
theorem dX12_misfit_6 : decode cX12_misfit 6 = .ok (.aload_n 0, 1) := by decide +kernel
theorem dX12_misfit_7 : decode cX12_misfit 7 = .ok (.getfield 190, 3) := by decide +kernel
theorem dX12_misfit_10 : decode cX12_misfit 10 = .ok (.iaload, 1) := by decide +kernel
theorem dX12_misfit_11 : decode cX12_misfit 11 = .ok (.invokevirtual 155, 3) := by decide +kernel
theorem dX12_misfit_14 : decode cX12_misfit 14 = .ok (.return_, 1) := by decide +kernel
theorem dX12_emit_0 : decode cX12_emit 0 = .ok (.aload_n 0, 1) := by decide +kernel
theorem dX12_emit_1 : decode cX12_emit 1 = .ok (.getfield 26, 3) := by decide +kernel
theorem dX12_emit_4 : decode cX12_emit 4 = .ok (.aload_n 0, 1) := by decide +kernel
theorem dX12_emit_5 : decode cX12_emit 5 = .ok (.getfield 193, 3) := by decide +kernel
theorem dX12_emit_8 : decode cX12_emit 8 = .ok (.aload_n 0, 1) := by decide +kernel
theorem dX12_emit_9 : decode cX12_emit 9 = .ok (.getfield 196, 3) := by decide +kernel
theorem dX12_emit_12 : decode cX12_emit 12 = .ok (.iadd, 1) := by decide +kernel
theorem dX12_emit_13 : decode cX12_emit 13 = .ok (.iload_n 1, 1) := by decide +kernel
theorem dX12_emit_14 : decode cX12_emit 14 = .ok (.iastore, 1) := by decide +kernel
theorem dX12_emit_15 : decode cX12_emit 15 = .ok (.aload_n 0, 1) := by decide +kernel
theorem dX12_emit_16 : decode cX12_emit 16 = .ok (.getfield 29, 3) := by decide +kernel
theorem dX12_emit_19 : decode cX12_emit 19 = .ok (.aload_n 0, 1) := by decide +kernel
theorem dX12_emit_20 : decode cX12_emit 20 = .ok (.getfield 193, 3) := by decide +kernel
theorem dX12_emit_23 : decode cX12_emit 23 = .ok (.aload_n 0, 1) := by decide +kernel
theorem dX12_emit_24 : decode cX12_emit 24 = .ok (.getfield 196, 3) := by decide +kernel
theorem dX12_emit_27 : decode cX12_emit 27 = .ok (.iadd, 1) := by decide +kernel
theorem dX12_emit_28 : decode cX12_emit 28 = .ok (.lload_n 2, 1) := by decide +kernel
theorem dX12_emit_29 : decode cX12_emit 29 = .ok (.lastore, 1) := by decide +kernel
theorem dX12_emit_30 : decode cX12_emit 30 = .ok (.aload_n 0, 1) := by decide +kernel
theorem dX12_emit_31 : decode cX12_emit 31 = .ok (.dup, 1) := by decide +kernel
theorem dX12_emit_32 : decode cX12_emit 32 = .ok (.getfield 196, 3) := by decide +kernel
theorem dX12_emit_35 : decode cX12_emit 35 = .ok (.iconst 1, 1) := by decide +kernel
theorem dX12_emit_36 : decode cX12_emit 36 = .ok (.iadd, 1) := by decide +kernel
theorem dX12_emit_37 : decode cX12_emit 37 = .ok (.putfield 196, 3) := by decide +kernel
theorem dX12_emit_40 : decode cX12_emit 40 = .ok (.aload_n 0, 1) := by decide +kernel
theorem dX12_emit_41 : decode cX12_emit 41 = .ok (.getfield 193, 3) := by decide +kernel
theorem dX12_emit_44 : decode cX12_emit 44 = .ok (.aload_n 0, 1) := by decide +kernel
theorem dX12_emit_45 : decode cX12_emit 45 = .ok (.getfield 196, 3) := by decide +kernel
theorem dX12_emit_48 : decode cX12_emit 48 = .ok (.iadd, 1) := by decide +kernel
theorem dX12_emit_49 : decode cX12_emit 49 = .ok (.iconst 1, 1) := by decide +kernel
theorem dX12_emit_50 : decode cX12_emit 50 = .ok (.isub, 1) := by decide +kernel
theorem dX12_emit_51 : decode cX12_emit 51 = .ok (.ireturn, 1) := by decide +kernel
theorem dX12_open_0 : decode cX12_open 0 = .ok (.aload_n 0, 1) := by decide +kernel
theorem dX12_open_1 : decode cX12_open 1 = .ok (.getfield 199, 3) := by decide +kernel
theorem dX12_open_4 : decode cX12_open 4 = .ok (.iconst 5, 1) := by decide +kernel
theorem dX12_open_5 : decode cX12_open 5 = .ok (.if_icmp .ne 18, 3) := by decide +kernel
theorem dX12_open_8 : decode cX12_open 8 = .ok (.aload_n 0, 1) := by decide +kernel
theorem dX12_open_9 : decode cX12_open 9 = .ok (.iconst 3, 1) := by decide +kernel
theorem dX12_open_10 : decode cX12_open 10 = .ok (.aload_n 0, 1) := by decide +kernel
theorem dX12_open_11 : decode cX12_open 11 = .ok (.getfield 16, 3) := by decide +kernel
theorem dX12_open_14 : decode cX12_open 14 = .ok (.aload_n 0, 1) := by decide +kernel
theorem dX12_open_15 : decode cX12_open 15 = .ok (.getfield 190, 3) := by decide +kernel
theorem dX12_open_18 : decode cX12_open 18 = .ok (.iaload, 1) := by decide +kernel
theorem dX12_open_19 : decode cX12_open 19 = .ok (.invokevirtual 155, 3) := by decide +kernel
theorem dX12_open_22 : decode cX12_open 22 = .ok (.return_, 1) := by decide +kernel
theorem dX12_open_23 : decode cX12_open 23 = .ok (.aload_n 0, 1) := by decide +kernel
theorem dX12_open_24 : decode cX12_open 24 = .ok (.getfield 35, 3) := by decide +kernel
theorem dX12_open_27 : decode cX12_open 27 = .ok (.aload_n 0, 1) := by decide +kernel
theorem dX12_open_28 : decode cX12_open 28 = .ok (.getfield 199, 3) := by decide +kernel
theorem dX12_open_31 : decode cX12_open 31 = .ok (.iload_n 1, 1) := by decide +kernel
theorem dX12_open_32 : decode cX12_open 32 = .ok (.iastore, 1) := by decide +kernel
theorem dX12_open_33 : decode cX12_open 33 = .ok (.aload_n 0, 1) := by decide +kernel
theorem dX12_open_34 : decode cX12_open 34 = .ok (.dup, 1) := by decide +kernel
theorem dX12_open_35 : decode cX12_open 35 = .ok (.getfield 199, 3) := by decide +kernel
theorem dX12_open_38 : decode cX12_open 38 = .ok (.iconst 1, 1) := by decide +kernel
theorem dX12_open_39 : decode cX12_open 39 = .ok (.iadd, 1) := by decide +kernel
theorem dX12_open_40 : decode cX12_open 40 = .ok (.putfield 199, 3) := by decide +kernel
theorem dX12_open_43 : decode cX12_open 43 = .ok (.aload_n 0, 1) := by decide +kernel
theorem dX12_open_44 : decode cX12_open 44 = .ok (.invokevirtual 202, 3) := by decide +kernel
theorem dX12_open_47 : decode cX12_open 47 = .ok (.return_, 1) := by decide +kernel
theorem dX12_fresh_0 : decode cX12_fresh 0 = .ok (.aload_n 0, 1) := by decide +kernel
theorem dX12_fresh_1 : decode cX12_fresh 1 = .ok (.getfield 199, 3) := by decide +kernel
theorem dX12_fresh_4 : decode cX12_fresh 4 = .ok (.iconst 1, 1) := by decide +kernel
theorem dX12_fresh_5 : decode cX12_fresh 5 = .ok (.isub, 1) := by decide +kernel
theorem dX12_fresh_6 : decode cX12_fresh 6 = .ok (.istore_n 1, 1) := by decide +kernel
theorem dX12_fresh_7 : decode cX12_fresh 7 = .ok (.aload_n 0, 1) := by decide +kernel
theorem dX12_fresh_8 : decode cX12_fresh 8 = .ok (.getfield 38, 3) := by decide +kernel
theorem dX12_fresh_11 : decode cX12_fresh 11 = .ok (.iload_n 1, 1) := by decide +kernel
theorem dX12_fresh_12 : decode cX12_fresh 12 = .ok (.aload_n 0, 1) := by decide +kernel
theorem dX12_fresh_13 : decode cX12_fresh 13 = .ok (.getfield 205, 3) := by decide +kernel
theorem dX12_fresh_16 : decode cX12_fresh 16 = .ok (.iastore, 1) := by decide +kernel
theorem dX12_fresh_17 : decode cX12_fresh 17 = .ok (.aload_n 0, 1) := by decide +kernel
theorem dX12_fresh_18 : decode cX12_fresh 18 = .ok (.getfield 41, 3) := by decide +kernel
theorem dX12_fresh_21 : decode cX12_fresh 21 = .ok (.iload_n 1, 1) := by decide +kernel
theorem dX12_fresh_22 : decode cX12_fresh 22 = .ok (.iconst 0, 1) := by decide +kernel
theorem dX12_fresh_23 : decode cX12_fresh 23 = .ok (.iastore, 1) := by decide +kernel
theorem dX12_fresh_24 : decode cX12_fresh 24 = .ok (.aload_n 0, 1) := by decide +kernel
theorem dX12_fresh_25 : decode cX12_fresh 25 = .ok (.getfield 53, 3) := by decide +kernel
theorem dX12_fresh_28 : decode cX12_fresh 28 = .ok (.iload_n 1, 1) := by decide +kernel
theorem dX12_fresh_29 : decode cX12_fresh 29 = .ok (.iconst 0, 1) := by decide +kernel
theorem dX12_fresh_30 : decode cX12_fresh 30 = .ok (.bastore, 1) := by decide +kernel
theorem dX12_fresh_31 : decode cX12_fresh 31 = .ok (.aload_n 0, 1) := by decide +kernel
theorem dX12_fresh_32 : decode cX12_fresh 32 = .ok (.getfield 57, 3) := by decide +kernel
theorem dX12_fresh_35 : decode cX12_fresh 35 = .ok (.iload_n 1, 1) := by decide +kernel
theorem dX12_fresh_36 : decode cX12_fresh 36 = .ok (.iconst 1, 1) := by decide +kernel
theorem dX12_fresh_37 : decode cX12_fresh 37 = .ok (.bastore, 1) := by decide +kernel
theorem dX12_fresh_38 : decode cX12_fresh 38 = .ok (.aload_n 0, 1) := by decide +kernel
theorem dX12_fresh_39 : decode cX12_fresh 39 = .ok (.getfield 60, 3) := by decide +kernel
theorem dX12_fresh_42 : decode cX12_fresh 42 = .ok (.iload_n 1, 1) := by decide +kernel
theorem dX12_fresh_43 : decode cX12_fresh 43 = .ok (.iconst 0, 1) := by decide +kernel
theorem dX12_fresh_44 : decode cX12_fresh 44 = .ok (.bastore, 1) := by decide +kernel
theorem dX12_fresh_45 : decode cX12_fresh 45 = .ok (.aload_n 0, 1) := by decide +kernel
theorem dX12_fresh_46 : decode cX12_fresh 46 = .ok (.iconst 1, 1) := by decide +kernel
theorem dX12_fresh_47 : decode cX12_fresh 47 = .ok (.putfield 208, 3) := by decide +kernel
theorem dX12_fresh_50 : decode cX12_fresh 50 = .ok (.return_, 1) := by decide +kernel
theorem dX12_ready_0 : decode cX12_ready 0 = .ok (.aload_n 0, 1) := by decide +kernel
theorem dX12_ready_1 : decode cX12_ready 1 = .ok (.getfield 60, 3) := by decide +kernel
theorem dX12_ready_4 : decode cX12_ready 4 = .ok (.aload_n 0, 1) := by decide +kernel
theorem dX12_ready_5 : decode cX12_ready 5 = .ok (.getfield 199, 3) := by decide +kernel
theorem dX12_ready_8 : decode cX12_ready 8 = .ok (.iconst 1, 1) := by decide +kernel
theorem dX12_ready_9 : decode cX12_ready 9 = .ok (.isub, 1) := by decide +kernel
theorem dX12_ready_10 : decode cX12_ready 10 = .ok (.iload_n 1, 1) := by decide +kernel
theorem dX12_ready_11 : decode cX12_ready 11 = .ok (.bastore, 1) := by decide +kernel
theorem dX12_ready_12 : decode cX12_ready 12 = .ok (.aload_n 0, 1) := by decide +kernel
theorem dX12_ready_13 : decode cX12_ready 13 = .ok (.iconst 0, 1) := by decide +kernel
theorem dX12_ready_14 : decode cX12_ready 14 = .ok (.putfield 208, 3) := by decide +kernel
theorem dX12_ready_17 : decode cX12_ready 17 = .ok (.return_, 1) := by decide +kernel
theorem dX12_call_0 : decode cX12_call 0 = .ok (.aload_n 0, 1) := by decide +kernel
theorem dX12_call_1 : decode cX12_call 1 = .ok (.dup, 1) := by decide +kernel
theorem dX12_call_2 : decode cX12_call 2 = .ok (.getfield 190, 3) := by decide +kernel
theorem dX12_call_5 : decode cX12_call 5 = .ok (.iconst 1, 1) := by decide +kernel
theorem dX12_call_6 : decode cX12_call 6 = .ok (.iadd, 1) := by decide +kernel
theorem dX12_call_7 : decode cX12_call 7 = .ok (.putfield 190, 3) := by decide +kernel
theorem dX12_call_10 : decode cX12_call 10 = .ok (.aload_n 0, 1) := by decide +kernel
theorem dX12_call_11 : decode cX12_call 11 = .ok (.iload_n 2, 1) := by decide +kernel
theorem dX12_call_12 : decode cX12_call 12 = .ok (.ifCond .eq 8, 3) := by decide +kernel
theorem dX12_call_15 : decode cX12_call 15 = .ok (.bipush 14, 2) := by decide +kernel
theorem dX12_call_17 : decode cX12_call 17 = .ok (.goto 5, 3) := by decide +kernel
theorem dX12_call_20 : decode cX12_call 20 = .ok (.bipush 13, 2) := by decide +kernel
theorem dX12_call_22 : decode cX12_call 22 = .ok (.lconst 0, 1) := by decide +kernel
theorem dX12_call_23 : decode cX12_call 23 = .ok (.invokevirtual 212, 3) := by decide +kernel
theorem dX12_call_26 : decode cX12_call 26 = .ok (.istore_n 3, 1) := by decide +kernel
theorem dX12_call_27 : decode cX12_call 27 = .ok (.aload_n 0, 1) := by decide +kernel
theorem dX12_call_28 : decode cX12_call 28 = .ok (.bipush 41, 2) := by decide +kernel
theorem dX12_call_30 : decode cX12_call 30 = .ok (.invokevirtual 216, 3) := by decide +kernel
theorem dX12_call_33 : decode cX12_call 33 = .ok (.ifCond .eq 48, 3) := by decide +kernel
theorem dX12_call_36 : decode cX12_call 36 = .ok (.aload_n 0, 1) := by decide +kernel
theorem dX12_call_37 : decode cX12_call 37 = .ok (.dup, 1) := by decide +kernel
theorem dX12_call_38 : decode cX12_call 38 = .ok (.getfield 190, 3) := by decide +kernel
theorem dX12_call_41 : decode cX12_call 41 = .ok (.iconst 1, 1) := by decide +kernel
theorem dX12_call_42 : decode cX12_call 42 = .ok (.iadd, 1) := by decide +kernel
theorem dX12_call_43 : decode cX12_call 43 = .ok (.putfield 190, 3) := by decide +kernel
theorem dX12_call_46 : decode cX12_call 46 = .ok (.aload_n 0, 1) := by decide +kernel
theorem dX12_call_47 : decode cX12_call 47 = .ok (.bipush 15, 2) := by decide +kernel
theorem dX12_call_49 : decode cX12_call 49 = .ok (.ldc2_w 219, 3) := by decide +kernel
theorem dX12_call_52 : decode cX12_call 52 = .ok (.iload_n 1, 1) := by decide +kernel
theorem dX12_call_53 : decode cX12_call 53 = .ok (.i2l, 1) := by decide +kernel
theorem dX12_call_54 : decode cX12_call 54 = .ok (.lmul, 1) := by decide +kernel
theorem dX12_call_55 : decode cX12_call 55 = .ok (.invokevirtual 212, 3) := by decide +kernel
theorem dX12_call_58 : decode cX12_call 58 = .ok (.pop, 1) := by decide +kernel
theorem dX12_call_59 : decode cX12_call 59 = .ok (.aload_n 0, 1) := by decide +kernel
theorem dX12_call_60 : decode cX12_call 60 = .ok (.getfield 29, 3) := by decide +kernel
theorem dX12_call_63 : decode cX12_call 63 = .ok (.iload_n 3, 1) := by decide +kernel
theorem dX12_call_64 : decode cX12_call 64 = .ok (.aload_n 0, 1) := by decide +kernel
theorem dX12_call_65 : decode cX12_call 65 = .ok (.getfield 193, 3) := by decide +kernel
theorem dX12_call_68 : decode cX12_call 68 = .ok (.aload_n 0, 1) := by decide +kernel
theorem dX12_call_69 : decode cX12_call 69 = .ok (.getfield 196, 3) := by decide +kernel
theorem dX12_call_72 : decode cX12_call 72 = .ok (.iadd, 1) := by decide +kernel
theorem dX12_call_73 : decode cX12_call 73 = .ok (.i2l, 1) := by decide +kernel
theorem dX12_call_74 : decode cX12_call 74 = .ok (.lastore, 1) := by decide +kernel
theorem dX12_call_75 : decode cX12_call 75 = .ok (.aload_n 0, 1) := by decide +kernel
theorem dX12_call_76 : decode cX12_call 76 = .ok (.iconst 0, 1) := by decide +kernel
theorem dX12_call_77 : decode cX12_call 77 = .ok (.invokevirtual 221, 3) := by decide +kernel
theorem dX12_call_80 : decode cX12_call 80 = .ok (.return_, 1) := by decide +kernel
theorem dX12_call_81 : decode cX12_call 81 = .ok (.aload_n 0, 1) := by decide +kernel
theorem dX12_call_82 : decode cX12_call 82 = .ok (.iconst 3, 1) := by decide +kernel
theorem dX12_call_83 : decode cX12_call 83 = .ok (.invokevirtual 225, 3) := by decide +kernel
theorem dX12_call_86 : decode cX12_call 86 = .ok (.aload_n 0, 1) := by decide +kernel
theorem dX12_call_87 : decode cX12_call 87 = .ok (.getfield 138, 3) := by decide +kernel
theorem dX12_call_90 : decode cX12_call 90 = .ok (.ifCond .ne 39, 3) := by decide +kernel
theorem dX12_call_93 : decode cX12_call 93 = .ok (.aload_n 0, 1) := by decide +kernel
theorem dX12_call_94 : decode cX12_call 94 = .ok (.getfield 44, 3) := by decide +kernel
theorem dX12_call_97 : decode cX12_call 97 = .ok (.aload_n 0, 1) := by decide +kernel
theorem dX12_call_98 : decode cX12_call 98 = .ok (.getfield 199, 3) := by decide +kernel
theorem dX12_call_101 : decode cX12_call 101 = .ok (.iconst 1, 1) := by decide +kernel
theorem dX12_call_102 : decode cX12_call 102 = .ok (.isub, 1) := by decide +kernel
theorem dX12_call_103 : decode cX12_call 103 = .ok (.iload_n 3, 1) := by decide +kernel
theorem dX12_call_104 : decode cX12_call 104 = .ok (.iastore, 1) := by decide +kernel
theorem dX12_call_105 : decode cX12_call 105 = .ok (.aload_n 0, 1) := by decide +kernel
theorem dX12_call_106 : decode cX12_call 106 = .ok (.getfield 47, 3) := by decide +kernel
theorem dX12_call_109 : decode cX12_call 109 = .ok (.aload_n 0, 1) := by decide +kernel
theorem dX12_call_110 : decode cX12_call 110 = .ok (.getfield 199, 3) := by decide +kernel
theorem dX12_call_113 : decode cX12_call 113 = .ok (.iconst 1, 1) := by decide +kernel
theorem dX12_call_114 : decode cX12_call 114 = .ok (.isub, 1) := by decide +kernel
theorem dX12_call_115 : decode cX12_call 115 = .ok (.iload_n 1, 1) := by decide +kernel
theorem dX12_call_116 : decode cX12_call 116 = .ok (.iastore, 1) := by decide +kernel
theorem dX12_call_117 : decode cX12_call 117 = .ok (.aload_n 0, 1) := by decide +kernel
theorem dX12_call_118 : decode cX12_call 118 = .ok (.getfield 50, 3) := by decide +kernel
theorem dX12_call_121 : decode cX12_call 121 = .ok (.aload_n 0, 1) := by decide +kernel
theorem dX12_call_122 : decode cX12_call 122 = .ok (.getfield 199, 3) := by decide +kernel
theorem dX12_call_125 : decode cX12_call 125 = .ok (.iconst 1, 1) := by decide +kernel
theorem dX12_call_126 : decode cX12_call 126 = .ok (.isub, 1) := by decide +kernel
theorem dX12_call_127 : decode cX12_call 127 = .ok (.iconst 1, 1) := by decide +kernel
theorem dX12_call_128 : decode cX12_call 128 = .ok (.iastore, 1) := by decide +kernel
theorem dX12_call_129 : decode cX12_call 129 = .ok (.return_, 1) := by decide +kernel
theorem dX12_named_0 : decode cX12_named 0 = .ok (.aload_n 0, 1) := by decide +kernel
theorem dX12_named_1 : decode cX12_named 1 = .ok (.bipush 40, 2) := by decide +kernel
theorem dX12_named_3 : decode cX12_named 3 = .ok (.invokevirtual 216, 3) := by decide +kernel
theorem dX12_named_6 : decode cX12_named 6 = .ok (.ifCond .eq 12, 3) := by decide +kernel
theorem dX12_named_9 : decode cX12_named 9 = .ok (.aload_n 0, 1) := by decide +kernel
theorem dX12_named_10 : decode cX12_named 10 = .ok (.iload_n 1, 1) := by decide +kernel
theorem dX12_named_11 : decode cX12_named 11 = .ok (.iload_n 2, 1) := by decide +kernel
theorem dX12_named_12 : decode cX12_named 12 = .ok (.invokevirtual 229, 3) := by decide +kernel
theorem dX12_named_15 : decode cX12_named 15 = .ok (.goto 26, 3) := by decide +kernel
theorem dX12_named_18 : decode cX12_named 18 = .ok (.aload_n 0, 1) := by decide +kernel
theorem dX12_named_19 : decode cX12_named 19 = .ok (.iload_n 2, 1) := by decide +kernel
theorem dX12_named_20 : decode cX12_named 20 = .ok (.ifCond .eq 8, 3) := by decide +kernel
theorem dX12_named_23 : decode cX12_named 23 = .ok (.bipush 12, 2) := by decide +kernel
theorem dX12_named_25 : decode cX12_named 25 = .ok (.goto 5, 3) := by decide +kernel
theorem dX12_named_28 : decode cX12_named 28 = .ok (.bipush 11, 2) := by decide +kernel
theorem dX12_named_30 : decode cX12_named 30 = .ok (.iload_n 1, 1) := by decide +kernel
theorem dX12_named_31 : decode cX12_named 31 = .ok (.i2l, 1) := by decide +kernel
theorem dX12_named_32 : decode cX12_named 32 = .ok (.invokevirtual 212, 3) := by decide +kernel
theorem dX12_named_35 : decode cX12_named 35 = .ok (.pop, 1) := by decide +kernel
theorem dX12_named_36 : decode cX12_named 36 = .ok (.aload_n 0, 1) := by decide +kernel
theorem dX12_named_37 : decode cX12_named 37 = .ok (.iconst 1, 1) := by decide +kernel
theorem dX12_named_38 : decode cX12_named 38 = .ok (.invokevirtual 221, 3) := by decide +kernel
theorem dX12_named_41 : decode cX12_named 41 = .ok (.return_, 1) := by decide +kernel
theorem dX12_word_0 : decode cX12_word 0 = .ok (.aload_n 0, 1) := by decide +kernel
theorem dX12_word_1 : decode cX12_word 1 = .ok (.getfield 19, 3) := by decide +kernel
theorem dX12_word_4 : decode cX12_word 4 = .ok (.aload_n 0, 1) := by decide +kernel
theorem dX12_word_5 : decode cX12_word 5 = .ok (.getfield 190, 3) := by decide +kernel
theorem dX12_word_8 : decode cX12_word 8 = .ok (.laload, 1) := by decide +kernel
theorem dX12_word_9 : decode cX12_word 9 = .ok (.l2i, 1) := by decide +kernel
theorem dX12_word_10 : decode cX12_word 10 = .ok (.istore_n 1, 1) := by decide +kernel
theorem dX12_word_11 : decode cX12_word 11 = .ok (.aload_n 0, 1) := by decide +kernel
theorem dX12_word_12 : decode cX12_word 12 = .ok (.dup, 1) := by decide +kernel
theorem dX12_word_13 : decode cX12_word 13 = .ok (.getfield 190, 3) := by decide +kernel
theorem dX12_word_16 : decode cX12_word 16 = .ok (.iconst 1, 1) := by decide +kernel
theorem dX12_word_17 : decode cX12_word 17 = .ok (.iadd, 1) := by decide +kernel
theorem dX12_word_18 : decode cX12_word 18 = .ok (.putfield 190, 3) := by decide +kernel
theorem dX12_word_21 : decode cX12_word 21 = .ok (.iload_n 1, 1) := by decide +kernel
theorem dX12_word_22 : decode cX12_word 22 = .ok (.ldc 233, 2) := by decide +kernel
theorem dX12_word_24 : decode cX12_word 24 = .ok (.if_icmp .eq 15, 3) := by decide +kernel
theorem dX12_word_27 : decode cX12_word 27 = .ok (.iload_n 1, 1) := by decide +kernel
theorem dX12_word_28 : decode cX12_word 28 = .ok (.ldc 234, 2) := by decide +kernel
theorem dX12_word_30 : decode cX12_word 30 = .ok (.if_icmp .eq 9, 3) := by decide +kernel
theorem dX12_word_33 : decode cX12_word 33 = .ok (.iload_n 1, 1) := by decide +kernel
theorem dX12_word_34 : decode cX12_word 34 = .ok (.ldc 235, 2) := by decide +kernel
theorem dX12_word_36 : decode cX12_word 36 = .ok (.if_icmp .ne 41, 3) := by decide +kernel
theorem dX12_word_39 : decode cX12_word 39 = .ok (.aload_n 0, 1) := by decide +kernel
theorem dX12_word_40 : decode cX12_word 40 = .ok (.iload_n 1, 1) := by decide +kernel
theorem dX12_word_41 : decode cX12_word 41 = .ok (.ldc 233, 2) := by decide +kernel
theorem dX12_word_43 : decode cX12_word 43 = .ok (.if_icmp .ne 8, 3) := by decide +kernel
theorem dX12_word_46 : decode cX12_word 46 = .ok (.bipush 6, 2) := by decide +kernel
theorem dX12_word_48 : decode cX12_word 48 = .ok (.goto 16, 3) := by decide +kernel
theorem dX12_word_51 : decode cX12_word 51 = .ok (.iload_n 1, 1) := by decide +kernel
theorem dX12_word_52 : decode cX12_word 52 = .ok (.ldc 234, 2) := by decide +kernel
theorem dX12_word_54 : decode cX12_word 54 = .ok (.if_icmp .ne 8, 3) := by decide +kernel
theorem dX12_word_57 : decode cX12_word 57 = .ok (.bipush 7, 2) := by decide +kernel
theorem dX12_word_59 : decode cX12_word 59 = .ok (.goto 5, 3) := by decide +kernel
theorem dX12_word_62 : decode cX12_word 62 = .ok (.bipush 8, 2) := by decide +kernel
theorem dX12_word_64 : decode cX12_word 64 = .ok (.lconst 0, 1) := by decide +kernel
theorem dX12_word_65 : decode cX12_word 65 = .ok (.invokevirtual 212, 3) := by decide +kernel
theorem dX12_word_68 : decode cX12_word 68 = .ok (.pop, 1) := by decide +kernel
theorem dX12_word_69 : decode cX12_word 69 = .ok (.aload_n 0, 1) := by decide +kernel
theorem dX12_word_70 : decode cX12_word 70 = .ok (.iconst 0, 1) := by decide +kernel
theorem dX12_word_71 : decode cX12_word 71 = .ok (.invokevirtual 221, 3) := by decide +kernel
theorem dX12_word_74 : decode cX12_word 74 = .ok (.goto 17, 3) := by decide +kernel
theorem dX12_word_77 : decode cX12_word 77 = .ok (.aload_n 0, 1) := by decide +kernel
theorem dX12_word_78 : decode cX12_word 78 = .ok (.bipush 10, 2) := by decide +kernel
theorem dX12_word_80 : decode cX12_word 80 = .ok (.lconst 0, 1) := by decide +kernel
theorem dX12_word_81 : decode cX12_word 81 = .ok (.invokevirtual 212, 3) := by decide +kernel
theorem dX12_word_84 : decode cX12_word 84 = .ok (.pop, 1) := by decide +kernel
theorem dX12_word_85 : decode cX12_word 85 = .ok (.aload_n 0, 1) := by decide +kernel
theorem dX12_word_86 : decode cX12_word 86 = .ok (.iload_n 1, 1) := by decide +kernel
theorem dX12_word_87 : decode cX12_word 87 = .ok (.iconst 0, 1) := by decide +kernel
theorem dX12_word_88 : decode cX12_word 88 = .ok (.invokevirtual 236, 3) := by decide +kernel
theorem dX12_word_91 : decode cX12_word 91 = .ok (.return_, 1) := by decide +kernel
theorem dX12_first_0 : decode cX12_first 0 = .ok (.aload_n 0, 1) := by decide +kernel
theorem dX12_first_1 : decode cX12_first 1 = .ok (.getfield 13, 3) := by decide +kernel
theorem dX12_first_4 : decode cX12_first 4 = .ok (.aload_n 0, 1) := by decide +kernel
theorem dX12_first_5 : decode cX12_first 5 = .ok (.getfield 190, 3) := by decide +kernel
theorem dX12_first_8 : decode cX12_first 8 = .ok (.iaload, 1) := by decide +kernel
theorem dX12_first_9 : decode cX12_first 9 = .ok (.istore_n 1, 1) := by decide +kernel
theorem dX12_first_10 : decode cX12_first 10 = .ok (.aload_n 0, 1) := by decide +kernel
theorem dX12_first_11 : decode cX12_first 11 = .ok (.getfield 199, 3) := by decide +kernel
theorem dX12_first_14 : decode cX12_first 14 = .ok (.iconst 1, 1) := by decide +kernel
theorem dX12_first_15 : decode cX12_first 15 = .ok (.isub, 1) := by decide +kernel
theorem dX12_first_16 : decode cX12_first 16 = .ok (.istore_n 2, 1) := by decide +kernel
theorem dX12_first_17 : decode cX12_first 17 = .ok (.iload_n 1, 1) := by decide +kernel
theorem dX12_first_18 : decode cX12_first 18 = .ok (.iconst 1, 1) := by decide +kernel
theorem dX12_first_19 : decode cX12_first 19 = .ok (.if_icmp .eq 13, 3) := by decide +kernel
theorem dX12_first_22 : decode cX12_first 22 = .ok (.iload_n 1, 1) := by decide +kernel
theorem dX12_first_23 : decode cX12_first 23 = .ok (.iconst 4, 1) := by decide +kernel
theorem dX12_first_24 : decode cX12_first 24 = .ok (.if_icmp .eq 8, 3) := by decide +kernel
theorem dX12_first_27 : decode cX12_first 27 = .ok (.iload_n 1, 1) := by decide +kernel
theorem dX12_first_28 : decode cX12_first 28 = .ok (.iconst 2, 1) := by decide +kernel
theorem dX12_first_29 : decode cX12_first 29 = .ok (.if_icmp .ne 66, 3) := by decide +kernel
theorem dX12_first_32 : decode cX12_first 32 = .ok (.aload_n 0, 1) := by decide +kernel
theorem dX12_first_33 : decode cX12_first 33 = .ok (.iload_n 1, 1) := by decide +kernel
theorem dX12_first_34 : decode cX12_first 34 = .ok (.iconst 1, 1) := by decide +kernel
theorem dX12_first_35 : decode cX12_first 35 = .ok (.if_icmp .ne 7, 3) := by decide +kernel
theorem dX12_first_38 : decode cX12_first 38 = .ok (.iconst 1, 1) := by decide +kernel
theorem dX12_first_39 : decode cX12_first 39 = .ok (.goto 25, 3) := by decide +kernel
theorem dX12_first_42 : decode cX12_first 42 = .ok (.iload_n 1, 1) := by decide +kernel
theorem dX12_first_43 : decode cX12_first 43 = .ok (.iconst 4, 1) := by decide +kernel
theorem dX12_first_44 : decode cX12_first 44 = .ok (.if_icmp .ne 7, 3) := by decide +kernel
theorem dX12_first_47 : decode cX12_first 47 = .ok (.iconst 5, 1) := by decide +kernel
theorem dX12_first_48 : decode cX12_first 48 = .ok (.goto 16, 3) := by decide +kernel
theorem dX12_first_51 : decode cX12_first 51 = .ok (.iconst 2, 1) := by decide +kernel
theorem dX12_first_52 : decode cX12_first 52 = .ok (.aload_n 0, 1) := by decide +kernel
theorem dX12_first_53 : decode cX12_first 53 = .ok (.getfield 23, 3) := by decide +kernel
theorem dX12_first_56 : decode cX12_first 56 = .ok (.aload_n 0, 1) := by decide +kernel
theorem dX12_first_57 : decode cX12_first 57 = .ok (.getfield 190, 3) := by decide +kernel
theorem dX12_first_60 : decode cX12_first 60 = .ok (.iaload, 1) := by decide +kernel
theorem dX12_first_61 : decode cX12_first 61 = .ok (.iadd, 1) := by decide +kernel
theorem dX12_first_62 : decode cX12_first 62 = .ok (.iconst 1, 1) := by decide +kernel
theorem dX12_first_63 : decode cX12_first 63 = .ok (.isub, 1) := by decide +kernel
theorem dX12_first_64 : decode cX12_first 64 = .ok (.aload_n 0, 1) := by decide +kernel
theorem dX12_first_65 : decode cX12_first 65 = .ok (.getfield 19, 3) := by decide +kernel
theorem dX12_first_68 : decode cX12_first 68 = .ok (.aload_n 0, 1) := by decide +kernel
theorem dX12_first_69 : decode cX12_first 69 = .ok (.getfield 190, 3) := by decide +kernel
theorem dX12_first_72 : decode cX12_first 72 = .ok (.laload, 1) := by decide +kernel
theorem dX12_first_73 : decode cX12_first 73 = .ok (.invokevirtual 212, 3) := by decide +kernel
theorem dX12_first_76 : decode cX12_first 76 = .ok (.pop, 1) := by decide +kernel
theorem dX12_first_77 : decode cX12_first 77 = .ok (.aload_n 0, 1) := by decide +kernel
theorem dX12_first_78 : decode cX12_first 78 = .ok (.dup, 1) := by decide +kernel
theorem dX12_first_79 : decode cX12_first 79 = .ok (.getfield 190, 3) := by decide +kernel
theorem dX12_first_82 : decode cX12_first 82 = .ok (.iconst 1, 1) := by decide +kernel
theorem dX12_first_83 : decode cX12_first 83 = .ok (.iadd, 1) := by decide +kernel
theorem dX12_first_84 : decode cX12_first 84 = .ok (.putfield 190, 3) := by decide +kernel
theorem dX12_first_87 : decode cX12_first 87 = .ok (.aload_n 0, 1) := by decide +kernel
theorem dX12_first_88 : decode cX12_first 88 = .ok (.iconst 0, 1) := by decide +kernel
theorem dX12_first_89 : decode cX12_first 89 = .ok (.invokevirtual 221, 3) := by decide +kernel
theorem dX12_first_92 : decode cX12_first 92 = .ok (.goto 186, 3) := by decide +kernel
theorem dX12_first_95 : decode cX12_first 95 = .ok (.iload_n 1, 1) := by decide +kernel
theorem dX12_first_96 : decode cX12_first 96 = .ok (.iconst 3, 1) := by decide +kernel
theorem dX12_first_97 : decode cX12_first 97 = .ok (.if_icmp .ne 10, 3) := by decide +kernel
theorem dX12_first_100 : decode cX12_first 100 = .ok (.aload_n 0, 1) := by decide +kernel
theorem dX12_first_101 : decode cX12_first 101 = .ok (.invokevirtual 239, 3) := by decide +kernel
theorem dX12_first_104 : decode cX12_first 104 = .ok (.goto 174, 3) := by decide +kernel
theorem dX12_first_107 : decode cX12_first 107 = .ok (.aload_n 0, 1) := by decide +kernel
theorem dX12_first_108 : decode cX12_first 108 = .ok (.getfield 41, 3) := by decide +kernel
theorem dX12_first_111 : decode cX12_first 111 = .ok (.iload_n 2, 1) := by decide +kernel
theorem dX12_first_112 : decode cX12_first 112 = .ok (.iaload, 1) := by decide +kernel
theorem dX12_first_113 : decode cX12_first 113 = .ok (.ifCond .ne 63, 3) := by decide +kernel
theorem dX12_first_116 : decode cX12_first 116 = .ok (.aload_n 0, 1) := by decide +kernel
theorem dX12_first_117 : decode cX12_first 117 = .ok (.bipush 45, 2) := by decide +kernel
theorem dX12_first_119 : decode cX12_first 119 = .ok (.invokevirtual 216, 3) := by decide +kernel
theorem dX12_first_122 : decode cX12_first 122 = .ok (.ifCond .ne 12, 3) := by decide +kernel
theorem dX12_first_125 : decode cX12_first 125 = .ok (.aload_n 0, 1) := by decide +kernel
theorem dX12_first_126 : decode cX12_first 126 = .ok (.bipush 33, 2) := by decide +kernel
theorem dX12_first_128 : decode cX12_first 128 = .ok (.invokevirtual 216, 3) := by decide +kernel
theorem dX12_first_131 : decode cX12_first 131 = .ok (.ifCond .eq 45, 3) := by decide +kernel
theorem dX12_first_134 : decode cX12_first 134 = .ok (.aload_n 0, 1) := by decide +kernel
theorem dX12_first_135 : decode cX12_first 135 = .ok (.getfield 41, 3) := by decide +kernel
theorem dX12_first_138 : decode cX12_first 138 = .ok (.iload_n 2, 1) := by decide +kernel
theorem dX12_first_139 : decode cX12_first 139 = .ok (.aload_n 0, 1) := by decide +kernel
theorem dX12_first_140 : decode cX12_first 140 = .ok (.bipush 45, 2) := by decide +kernel
theorem dX12_first_142 : decode cX12_first 142 = .ok (.invokevirtual 216, 3) := by decide +kernel
theorem dX12_first_145 : decode cX12_first 145 = .ok (.ifCond .eq 8, 3) := by decide +kernel
theorem dX12_first_148 : decode cX12_first 148 = .ok (.bipush 30, 2) := by decide +kernel
theorem dX12_first_150 : decode cX12_first 150 = .ok (.goto 5, 3) := by decide +kernel
theorem dX12_first_153 : decode cX12_first 153 = .ok (.bipush 31, 2) := by decide +kernel
theorem dX12_first_155 : decode cX12_first 155 = .ok (.iastore, 1) := by decide +kernel
theorem dX12_first_156 : decode cX12_first 156 = .ok (.aload_n 0, 1) := by decide +kernel
theorem dX12_first_157 : decode cX12_first 157 = .ok (.getfield 57, 3) := by decide +kernel
theorem dX12_first_160 : decode cX12_first 160 = .ok (.iload_n 2, 1) := by decide +kernel
theorem dX12_first_161 : decode cX12_first 161 = .ok (.iconst 0, 1) := by decide +kernel
theorem dX12_first_162 : decode cX12_first 162 = .ok (.bastore, 1) := by decide +kernel
theorem dX12_first_163 : decode cX12_first 163 = .ok (.aload_n 0, 1) := by decide +kernel
theorem dX12_first_164 : decode cX12_first 164 = .ok (.dup, 1) := by decide +kernel
theorem dX12_first_165 : decode cX12_first 165 = .ok (.getfield 190, 3) := by decide +kernel
theorem dX12_first_168 : decode cX12_first 168 = .ok (.iconst 1, 1) := by decide +kernel
theorem dX12_first_169 : decode cX12_first 169 = .ok (.iadd, 1) := by decide +kernel
theorem dX12_first_170 : decode cX12_first 170 = .ok (.putfield 190, 3) := by decide +kernel
theorem dX12_first_173 : decode cX12_first 173 = .ok (.goto 105, 3) := by decide +kernel
theorem dX12_first_176 : decode cX12_first 176 = .ok (.aload_n 0, 1) := by decide +kernel
theorem dX12_first_177 : decode cX12_first 177 = .ok (.bipush 40, 2) := by decide +kernel
theorem dX12_first_179 : decode cX12_first 179 = .ok (.invokevirtual 216, 3) := by decide +kernel
theorem dX12_first_182 : decode cX12_first 182 = .ok (.ifCond .eq 21, 3) := by decide +kernel
theorem dX12_first_185 : decode cX12_first 185 = .ok (.aload_n 0, 1) := by decide +kernel
theorem dX12_first_186 : decode cX12_first 186 = .ok (.dup, 1) := by decide +kernel
theorem dX12_first_187 : decode cX12_first 187 = .ok (.getfield 190, 3) := by decide +kernel
theorem dX12_first_190 : decode cX12_first 190 = .ok (.iconst 1, 1) := by decide +kernel
theorem dX12_first_191 : decode cX12_first 191 = .ok (.iadd, 1) := by decide +kernel
theorem dX12_first_192 : decode cX12_first 192 = .ok (.putfield 190, 3) := by decide +kernel
theorem dX12_first_195 : decode cX12_first 195 = .ok (.aload_n 0, 1) := by decide +kernel
theorem dX12_first_196 : decode cX12_first 196 = .ok (.iconst 2, 1) := by decide +kernel
theorem dX12_first_197 : decode cX12_first 197 = .ok (.invokevirtual 225, 3) := by decide +kernel
theorem dX12_first_200 : decode cX12_first 200 = .ok (.goto 78, 3) := by decide +kernel
theorem dX12_first_203 : decode cX12_first 203 = .ok (.aload_n 0, 1) := by decide +kernel
theorem dX12_first_204 : decode cX12_first 204 = .ok (.bipush 35, 2) := by decide +kernel
theorem dX12_first_206 : decode cX12_first 206 = .ok (.invokevirtual 216, 3) := by decide +kernel
theorem dX12_first_209 : decode cX12_first 209 = .ok (.ifCond .eq 65, 3) := by decide +kernel
theorem dX12_first_212 : decode cX12_first 212 = .ok (.aload_n 0, 1) := by decide +kernel
theorem dX12_first_213 : decode cX12_first 213 = .ok (.dup, 1) := by decide +kernel
theorem dX12_first_214 : decode cX12_first 214 = .ok (.getfield 190, 3) := by decide +kernel
theorem dX12_first_217 : decode cX12_first 217 = .ok (.iconst 1, 1) := by decide +kernel
theorem dX12_first_218 : decode cX12_first 218 = .ok (.iadd, 1) := by decide +kernel
theorem dX12_first_219 : decode cX12_first 219 = .ok (.putfield 190, 3) := by decide +kernel
theorem dX12_first_222 : decode cX12_first 222 = .ok (.aload_n 0, 1) := by decide +kernel
theorem dX12_first_223 : decode cX12_first 223 = .ok (.getfield 13, 3) := by decide +kernel
theorem dX12_first_226 : decode cX12_first 226 = .ok (.aload_n 0, 1) := by decide +kernel
theorem dX12_first_227 : decode cX12_first 227 = .ok (.getfield 190, 3) := by decide +kernel
theorem dX12_first_230 : decode cX12_first 230 = .ok (.iaload, 1) := by decide +kernel
theorem dX12_first_231 : decode cX12_first 231 = .ok (.iconst 3, 1) := by decide +kernel
theorem dX12_first_232 : decode cX12_first 232 = .ok (.if_icmp .eq 8, 3) := by decide +kernel
theorem dX12_first_235 : decode cX12_first 235 = .ok (.aload_n 0, 1) := by decide +kernel
theorem dX12_first_236 : decode cX12_first 236 = .ok (.invokevirtual 242, 3) := by decide +kernel
theorem dX12_first_239 : decode cX12_first 239 = .ok (.return_, 1) := by decide +kernel
theorem dX12_first_240 : decode cX12_first 240 = .ok (.aload_n 0, 1) := by decide +kernel
theorem dX12_first_241 : decode cX12_first 241 = .ok (.bipush 9, 2) := by decide +kernel
theorem dX12_first_243 : decode cX12_first 243 = .ok (.aload_n 0, 1) := by decide +kernel
theorem dX12_first_244 : decode cX12_first 244 = .ok (.getfield 19, 3) := by decide +kernel
theorem dX12_first_247 : decode cX12_first 247 = .ok (.aload_n 0, 1) := by decide +kernel
theorem dX12_first_248 : decode cX12_first 248 = .ok (.getfield 190, 3) := by decide +kernel
theorem dX12_first_251 : decode cX12_first 251 = .ok (.laload, 1) := by decide +kernel
theorem dX12_first_252 : decode cX12_first 252 = .ok (.invokevirtual 212, 3) := by decide +kernel
theorem dX12_first_255 : decode cX12_first 255 = .ok (.pop, 1) := by decide +kernel
theorem dX12_first_256 : decode cX12_first 256 = .ok (.aload_n 0, 1) := by decide +kernel
theorem dX12_first_257 : decode cX12_first 257 = .ok (.dup, 1) := by decide +kernel
theorem dX12_first_258 : decode cX12_first 258 = .ok (.getfield 190, 3) := by decide +kernel
theorem dX12_first_261 : decode cX12_first 261 = .ok (.iconst 1, 1) := by decide +kernel
theorem dX12_first_262 : decode cX12_first 262 = .ok (.iadd, 1) := by decide +kernel
theorem dX12_first_263 : decode cX12_first 263 = .ok (.putfield 190, 3) := by decide +kernel
theorem dX12_first_266 : decode cX12_first 266 = .ok (.aload_n 0, 1) := by decide +kernel
theorem dX12_first_267 : decode cX12_first 267 = .ok (.iconst 1, 1) := by decide +kernel
theorem dX12_first_268 : decode cX12_first 268 = .ok (.invokevirtual 221, 3) := by decide +kernel
theorem dX12_first_271 : decode cX12_first 271 = .ok (.goto 7, 3) := by decide +kernel
theorem dX12_first_274 : decode cX12_first 274 = .ok (.aload_n 0, 1) := by decide +kernel
theorem dX12_first_275 : decode cX12_first 275 = .ok (.invokevirtual 242, 3) := by decide +kernel
theorem dX12_first_278 : decode cX12_first 278 = .ok (.return_, 1) := by decide +kernel
theorem dX12_levelNext_0 : decode cX12_levelNext 0 = .ok (.aload_n 0, 1) := by decide +kernel
theorem dX12_levelNext_1 : decode cX12_levelNext 1 = .ok (.getfield 13, 3) := by decide +kernel
theorem dX12_levelNext_4 : decode cX12_levelNext 4 = .ok (.aload_n 0, 1) := by decide +kernel
theorem dX12_levelNext_5 : decode cX12_levelNext 5 = .ok (.getfield 190, 3) := by decide +kernel
theorem dX12_levelNext_8 : decode cX12_levelNext 8 = .ok (.iaload, 1) := by decide +kernel
theorem dX12_levelNext_9 : decode cX12_levelNext 9 = .ok (.iconst 5, 1) := by decide +kernel
theorem dX12_levelNext_10 : decode cX12_levelNext 10 = .ok (.if_icmp .eq 5, 3) := by decide +kernel
theorem dX12_levelNext_13 : decode cX12_levelNext 13 = .ok (.iconst 0, 1) := by decide +kernel
theorem dX12_levelNext_14 : decode cX12_levelNext 14 = .ok (.ireturn, 1) := by decide +kernel
theorem dX12_levelNext_15 : decode cX12_levelNext 15 = .ok (.aload_n 0, 1) := by decide +kernel
theorem dX12_levelNext_16 : decode cX12_levelNext 16 = .ok (.getfield 19, 3) := by decide +kernel
theorem dX12_levelNext_19 : decode cX12_levelNext 19 = .ok (.aload_n 0, 1) := by decide +kernel
theorem dX12_levelNext_20 : decode cX12_levelNext 20 = .ok (.getfield 190, 3) := by decide +kernel
theorem dX12_levelNext_23 : decode cX12_levelNext 23 = .ok (.laload, 1) := by decide +kernel
theorem dX12_levelNext_24 : decode cX12_levelNext 24 = .ok (.l2i, 1) := by decide +kernel
theorem dX12_levelNext_25 : decode cX12_levelNext 25 = .ok (.istore_n 1, 1) := by decide +kernel
theorem dX12_levelNext_26 : decode cX12_levelNext 26 = .ok (.iload_n 1, 1) := by decide +kernel
theorem dX12_levelNext_27 : decode cX12_levelNext 27 = .ok (.bipush 43, 2) := by decide +kernel
theorem dX12_levelNext_29 : decode cX12_levelNext 29 = .ok (.if_icmp .eq 9, 3) := by decide +kernel
theorem dX12_levelNext_32 : decode cX12_levelNext 32 = .ok (.iload_n 1, 1) := by decide +kernel
theorem dX12_levelNext_33 : decode cX12_levelNext 33 = .ok (.bipush 45, 2) := by decide +kernel
theorem dX12_levelNext_35 : decode cX12_levelNext 35 = .ok (.if_icmp .ne 5, 3) := by decide +kernel
theorem dX12_levelNext_38 : decode cX12_levelNext 38 = .ok (.iconst 4, 1) := by decide +kernel
theorem dX12_levelNext_39 : decode cX12_levelNext 39 = .ok (.ireturn, 1) := by decide +kernel
theorem dX12_levelNext_40 : decode cX12_levelNext 40 = .ok (.iload_n 1, 1) := by decide +kernel
theorem dX12_levelNext_41 : decode cX12_levelNext 41 = .ok (.bipush 42, 2) := by decide +kernel
theorem dX12_levelNext_43 : decode cX12_levelNext 43 = .ok (.if_icmp .eq 15, 3) := by decide +kernel
theorem dX12_levelNext_46 : decode cX12_levelNext 46 = .ok (.iload_n 1, 1) := by decide +kernel
theorem dX12_levelNext_47 : decode cX12_levelNext 47 = .ok (.bipush 47, 2) := by decide +kernel
theorem dX12_levelNext_49 : decode cX12_levelNext 49 = .ok (.if_icmp .eq 9, 3) := by decide +kernel
theorem dX12_levelNext_52 : decode cX12_levelNext 52 = .ok (.iload_n 1, 1) := by decide +kernel
theorem dX12_levelNext_53 : decode cX12_levelNext 53 = .ok (.bipush 37, 2) := by decide +kernel
theorem dX12_levelNext_55 : decode cX12_levelNext 55 = .ok (.if_icmp .ne 5, 3) := by decide +kernel
theorem dX12_levelNext_58 : decode cX12_levelNext 58 = .ok (.iconst 5, 1) := by decide +kernel
theorem dX12_levelNext_59 : decode cX12_levelNext 59 = .ok (.ireturn, 1) := by decide +kernel
theorem dX12_levelNext_60 : decode cX12_levelNext 60 = .ok (.iload_n 1, 1) := by decide +kernel
theorem dX12_levelNext_61 : decode cX12_levelNext 61 = .ok (.bipush 60, 2) := by decide +kernel
theorem dX12_levelNext_63 : decode cX12_levelNext 63 = .ok (.if_icmp .eq 37, 3) := by decide +kernel
theorem dX12_levelNext_66 : decode cX12_levelNext 66 = .ok (.iload_n 1, 1) := by decide +kernel
theorem dX12_levelNext_67 : decode cX12_levelNext 67 = .ok (.bipush 62, 2) := by decide +kernel
theorem dX12_levelNext_69 : decode cX12_levelNext 69 = .ok (.if_icmp .eq 31, 3) := by decide +kernel
theorem dX12_levelNext_72 : decode cX12_levelNext 72 = .ok (.iload_n 1, 1) := by decide +kernel
theorem dX12_levelNext_73 : decode cX12_levelNext 73 = .ok (.sipush 15421, 3) := by decide +kernel
theorem dX12_levelNext_76 : decode cX12_levelNext 76 = .ok (.if_icmp .eq 24, 3) := by decide +kernel
theorem dX12_levelNext_79 : decode cX12_levelNext 79 = .ok (.iload_n 1, 1) := by decide +kernel
theorem dX12_levelNext_80 : decode cX12_levelNext 80 = .ok (.sipush 15933, 3) := by decide +kernel
theorem dX12_levelNext_83 : decode cX12_levelNext 83 = .ok (.if_icmp .eq 17, 3) := by decide +kernel
theorem dX12_levelNext_86 : decode cX12_levelNext 86 = .ok (.iload_n 1, 1) := by decide +kernel
theorem dX12_levelNext_87 : decode cX12_levelNext 87 = .ok (.sipush 15677, 3) := by decide +kernel
theorem dX12_levelNext_90 : decode cX12_levelNext 90 = .ok (.if_icmp .eq 10, 3) := by decide +kernel
theorem dX12_levelNext_93 : decode cX12_levelNext 93 = .ok (.iload_n 1, 1) := by decide +kernel
theorem dX12_levelNext_94 : decode cX12_levelNext 94 = .ok (.sipush 8509, 3) := by decide +kernel
theorem dX12_levelNext_97 : decode cX12_levelNext 97 = .ok (.if_icmp .ne 5, 3) := by decide +kernel
theorem dX12_levelNext_100 : decode cX12_levelNext 100 = .ok (.iconst 3, 1) := by decide +kernel
theorem dX12_levelNext_101 : decode cX12_levelNext 101 = .ok (.ireturn, 1) := by decide +kernel
theorem dX12_levelNext_102 : decode cX12_levelNext 102 = .ok (.iload_n 1, 1) := by decide +kernel
theorem dX12_levelNext_103 : decode cX12_levelNext 103 = .ok (.sipush 9766, 3) := by decide +kernel
theorem dX12_levelNext_106 : decode cX12_levelNext 106 = .ok (.if_icmp .ne 7, 3) := by decide +kernel
theorem dX12_levelNext_109 : decode cX12_levelNext 109 = .ok (.iconst 2, 1) := by decide +kernel
theorem dX12_levelNext_110 : decode cX12_levelNext 110 = .ok (.goto 15, 3) := by decide +kernel
theorem dX12_levelNext_113 : decode cX12_levelNext 113 = .ok (.iload_n 1, 1) := by decide +kernel
theorem dX12_levelNext_114 : decode cX12_levelNext 114 = .ok (.sipush 31868, 3) := by decide +kernel
theorem dX12_levelNext_117 : decode cX12_levelNext 117 = .ok (.if_icmp .ne 7, 3) := by decide +kernel
theorem dX12_levelNext_120 : decode cX12_levelNext 120 = .ok (.iconst 1, 1) := by decide +kernel
theorem dX12_levelNext_121 : decode cX12_levelNext 121 = .ok (.goto 4, 3) := by decide +kernel
theorem dX12_levelNext_124 : decode cX12_levelNext 124 = .ok (.iconst 0, 1) := by decide +kernel
theorem dX12_levelNext_125 : decode cX12_levelNext 125 = .ok (.ireturn, 1) := by decide +kernel
theorem dX12_stepOf_0 : decode cX12_stepOf 0 = .ok (.iload_n 0, 1) := by decide +kernel
theorem dX12_stepOf_1 : decode cX12_stepOf 1 = .ok (.bipush 43, 2) := by decide +kernel
theorem dX12_stepOf_3 : decode cX12_stepOf 3 = .ok (.if_icmp .ne 8, 3) := by decide +kernel
theorem dX12_stepOf_6 : decode cX12_stepOf 6 = .ok (.bipush 16, 2) := by decide +kernel
theorem dX12_stepOf_8 : decode cX12_stepOf 8 = .ok (.goto 107, 3) := by decide +kernel
theorem dX12_stepOf_11 : decode cX12_stepOf 11 = .ok (.iload_n 0, 1) := by decide +kernel
theorem dX12_stepOf_12 : decode cX12_stepOf 12 = .ok (.bipush 45, 2) := by decide +kernel
theorem dX12_stepOf_14 : decode cX12_stepOf 14 = .ok (.if_icmp .ne 8, 3) := by decide +kernel
theorem dX12_stepOf_17 : decode cX12_stepOf 17 = .ok (.bipush 17, 2) := by decide +kernel
theorem dX12_stepOf_19 : decode cX12_stepOf 19 = .ok (.goto 96, 3) := by decide +kernel
theorem dX12_stepOf_22 : decode cX12_stepOf 22 = .ok (.iload_n 0, 1) := by decide +kernel
theorem dX12_stepOf_23 : decode cX12_stepOf 23 = .ok (.bipush 42, 2) := by decide +kernel
theorem dX12_stepOf_25 : decode cX12_stepOf 25 = .ok (.if_icmp .ne 8, 3) := by decide +kernel
theorem dX12_stepOf_28 : decode cX12_stepOf 28 = .ok (.bipush 18, 2) := by decide +kernel
theorem dX12_stepOf_30 : decode cX12_stepOf 30 = .ok (.goto 85, 3) := by decide +kernel
theorem dX12_stepOf_33 : decode cX12_stepOf 33 = .ok (.iload_n 0, 1) := by decide +kernel
theorem dX12_stepOf_34 : decode cX12_stepOf 34 = .ok (.bipush 47, 2) := by decide +kernel
theorem dX12_stepOf_36 : decode cX12_stepOf 36 = .ok (.if_icmp .ne 8, 3) := by decide +kernel
theorem dX12_stepOf_39 : decode cX12_stepOf 39 = .ok (.bipush 19, 2) := by decide +kernel
theorem dX12_stepOf_41 : decode cX12_stepOf 41 = .ok (.goto 74, 3) := by decide +kernel
theorem dX12_stepOf_44 : decode cX12_stepOf 44 = .ok (.iload_n 0, 1) := by decide +kernel
theorem dX12_stepOf_45 : decode cX12_stepOf 45 = .ok (.bipush 37, 2) := by decide +kernel
theorem dX12_stepOf_47 : decode cX12_stepOf 47 = .ok (.if_icmp .ne 8, 3) := by decide +kernel
theorem dX12_stepOf_50 : decode cX12_stepOf 50 = .ok (.bipush 20, 2) := by decide +kernel
theorem dX12_stepOf_52 : decode cX12_stepOf 52 = .ok (.goto 63, 3) := by decide +kernel
theorem dX12_stepOf_55 : decode cX12_stepOf 55 = .ok (.iload_n 0, 1) := by decide +kernel
theorem dX12_stepOf_56 : decode cX12_stepOf 56 = .ok (.bipush 60, 2) := by decide +kernel
theorem dX12_stepOf_58 : decode cX12_stepOf 58 = .ok (.if_icmp .ne 8, 3) := by decide +kernel
theorem dX12_stepOf_61 : decode cX12_stepOf 61 = .ok (.bipush 21, 2) := by decide +kernel
theorem dX12_stepOf_63 : decode cX12_stepOf 63 = .ok (.goto 52, 3) := by decide +kernel
theorem dX12_stepOf_66 : decode cX12_stepOf 66 = .ok (.iload_n 0, 1) := by decide +kernel
theorem dX12_stepOf_67 : decode cX12_stepOf 67 = .ok (.bipush 62, 2) := by decide +kernel
theorem dX12_stepOf_69 : decode cX12_stepOf 69 = .ok (.if_icmp .ne 8, 3) := by decide +kernel
theorem dX12_stepOf_72 : decode cX12_stepOf 72 = .ok (.bipush 22, 2) := by decide +kernel
theorem dX12_stepOf_74 : decode cX12_stepOf 74 = .ok (.goto 41, 3) := by decide +kernel
theorem dX12_stepOf_77 : decode cX12_stepOf 77 = .ok (.iload_n 0, 1) := by decide +kernel
theorem dX12_stepOf_78 : decode cX12_stepOf 78 = .ok (.sipush 15421, 3) := by decide +kernel
theorem dX12_stepOf_81 : decode cX12_stepOf 81 = .ok (.if_icmp .ne 8, 3) := by decide +kernel
theorem dX12_stepOf_84 : decode cX12_stepOf 84 = .ok (.bipush 23, 2) := by decide +kernel
theorem dX12_stepOf_86 : decode cX12_stepOf 86 = .ok (.goto 29, 3) := by decide +kernel
theorem dX12_stepOf_89 : decode cX12_stepOf 89 = .ok (.iload_n 0, 1) := by decide +kernel
theorem dX12_stepOf_90 : decode cX12_stepOf 90 = .ok (.sipush 15933, 3) := by decide +kernel
theorem dX12_stepOf_93 : decode cX12_stepOf 93 = .ok (.if_icmp .ne 8, 3) := by decide +kernel
theorem dX12_stepOf_96 : decode cX12_stepOf 96 = .ok (.bipush 24, 2) := by decide +kernel
theorem dX12_stepOf_98 : decode cX12_stepOf 98 = .ok (.goto 17, 3) := by decide +kernel
theorem dX12_stepOf_101 : decode cX12_stepOf 101 = .ok (.iload_n 0, 1) := by decide +kernel
theorem dX12_stepOf_102 : decode cX12_stepOf 102 = .ok (.sipush 15677, 3) := by decide +kernel
theorem dX12_stepOf_105 : decode cX12_stepOf 105 = .ok (.if_icmp .ne 8, 3) := by decide +kernel
theorem dX12_stepOf_108 : decode cX12_stepOf 108 = .ok (.bipush 25, 2) := by decide +kernel
theorem dX12_stepOf_110 : decode cX12_stepOf 110 = .ok (.goto 5, 3) := by decide +kernel
theorem dX12_stepOf_113 : decode cX12_stepOf 113 = .ok (.bipush 26, 2) := by decide +kernel
theorem dX12_stepOf_115 : decode cX12_stepOf 115 = .ok (.ireturn, 1) := by decide +kernel
theorem dX12_reduce_0 : decode cX12_reduce 0 = .ok (.aload_n 0, 1) := by decide +kernel
theorem dX12_reduce_1 : decode cX12_reduce 1 = .ok (.getfield 205, 3) := by decide +kernel
theorem dX12_reduce_4 : decode cX12_reduce 4 = .ok (.aload_n 0, 1) := by decide +kernel
theorem dX12_reduce_5 : decode cX12_reduce 5 = .ok (.getfield 38, 3) := by decide +kernel
theorem dX12_reduce_8 : decode cX12_reduce 8 = .ok (.aload_n 0, 1) := by decide +kernel
theorem dX12_reduce_9 : decode cX12_reduce 9 = .ok (.getfield 199, 3) := by decide +kernel
theorem dX12_reduce_12 : decode cX12_reduce 12 = .ok (.iconst 1, 1) := by decide +kernel
theorem dX12_reduce_13 : decode cX12_reduce 13 = .ok (.isub, 1) := by decide +kernel
theorem dX12_reduce_14 : decode cX12_reduce 14 = .ok (.iaload, 1) := by decide +kernel
theorem dX12_reduce_15 : decode cX12_reduce 15 = .ok (.if_icmp .le 94, 3) := by decide +kernel
theorem dX12_reduce_18 : decode cX12_reduce 18 = .ok (.aload_n 0, 1) := by decide +kernel
theorem dX12_reduce_19 : decode cX12_reduce 19 = .ok (.getfield 66, 3) := by decide +kernel
theorem dX12_reduce_22 : decode cX12_reduce 22 = .ok (.aload_n 0, 1) := by decide +kernel
theorem dX12_reduce_23 : decode cX12_reduce 23 = .ok (.getfield 205, 3) := by decide +kernel
theorem dX12_reduce_26 : decode cX12_reduce 26 = .ok (.iconst 1, 1) := by decide +kernel
theorem dX12_reduce_27 : decode cX12_reduce 27 = .ok (.isub, 1) := by decide +kernel
theorem dX12_reduce_28 : decode cX12_reduce 28 = .ok (.iaload, 1) := by decide +kernel
theorem dX12_reduce_29 : decode cX12_reduce 29 = .ok (.iload_n 1, 1) := by decide +kernel
theorem dX12_reduce_30 : decode cX12_reduce 30 = .ok (.if_icmp .lt 79, 3) := by decide +kernel
theorem dX12_reduce_33 : decode cX12_reduce 33 = .ok (.aload_n 0, 1) := by decide +kernel
theorem dX12_reduce_34 : decode cX12_reduce 34 = .ok (.dup, 1) := by decide +kernel
theorem dX12_reduce_35 : decode cX12_reduce 35 = .ok (.getfield 205, 3) := by decide +kernel
theorem dX12_reduce_38 : decode cX12_reduce 38 = .ok (.iconst 1, 1) := by decide +kernel
theorem dX12_reduce_39 : decode cX12_reduce 39 = .ok (.isub, 1) := by decide +kernel
theorem dX12_reduce_40 : decode cX12_reduce 40 = .ok (.putfield 205, 3) := by decide +kernel
theorem dX12_reduce_43 : decode cX12_reduce 43 = .ok (.aload_n 0, 1) := by decide +kernel
theorem dX12_reduce_44 : decode cX12_reduce 44 = .ok (.getfield 66, 3) := by decide +kernel
theorem dX12_reduce_47 : decode cX12_reduce 47 = .ok (.aload_n 0, 1) := by decide +kernel
theorem dX12_reduce_48 : decode cX12_reduce 48 = .ok (.getfield 205, 3) := by decide +kernel
theorem dX12_reduce_51 : decode cX12_reduce 51 = .ok (.iaload, 1) := by decide +kernel
theorem dX12_reduce_52 : decode cX12_reduce 52 = .ok (.iconst 2, 1) := by decide +kernel
theorem dX12_reduce_53 : decode cX12_reduce 53 = .ok (.if_icmp .gt 38, 3) := by decide +kernel
theorem dX12_reduce_56 : decode cX12_reduce 56 = .ok (.aload_n 0, 1) := by decide +kernel
theorem dX12_reduce_57 : decode cX12_reduce 57 = .ok (.bipush 34, 2) := by decide +kernel
theorem dX12_reduce_59 : decode cX12_reduce 59 = .ok (.lconst 0, 1) := by decide +kernel
theorem dX12_reduce_60 : decode cX12_reduce 60 = .ok (.invokevirtual 212, 3) := by decide +kernel
theorem dX12_reduce_63 : decode cX12_reduce 63 = .ok (.pop, 1) := by decide +kernel
theorem dX12_reduce_64 : decode cX12_reduce 64 = .ok (.aload_n 0, 1) := by decide +kernel
theorem dX12_reduce_65 : decode cX12_reduce 65 = .ok (.getfield 29, 3) := by decide +kernel
theorem dX12_reduce_68 : decode cX12_reduce 68 = .ok (.aload_n 0, 1) := by decide +kernel
theorem dX12_reduce_69 : decode cX12_reduce 69 = .ok (.getfield 69, 3) := by decide +kernel
theorem dX12_reduce_72 : decode cX12_reduce 72 = .ok (.aload_n 0, 1) := by decide +kernel
theorem dX12_reduce_73 : decode cX12_reduce 73 = .ok (.getfield 205, 3) := by decide +kernel
theorem dX12_reduce_76 : decode cX12_reduce 76 = .ok (.iaload, 1) := by decide +kernel
theorem dX12_reduce_77 : decode cX12_reduce 77 = .ok (.aload_n 0, 1) := by decide +kernel
theorem dX12_reduce_78 : decode cX12_reduce 78 = .ok (.getfield 193, 3) := by decide +kernel
theorem dX12_reduce_81 : decode cX12_reduce 81 = .ok (.aload_n 0, 1) := by decide +kernel
theorem dX12_reduce_82 : decode cX12_reduce 82 = .ok (.getfield 196, 3) := by decide +kernel
theorem dX12_reduce_85 : decode cX12_reduce 85 = .ok (.iadd, 1) := by decide +kernel
theorem dX12_reduce_86 : decode cX12_reduce 86 = .ok (.i2l, 1) := by decide +kernel
theorem dX12_reduce_87 : decode cX12_reduce 87 = .ok (.lastore, 1) := by decide +kernel
theorem dX12_reduce_88 : decode cX12_reduce 88 = .ok (.goto (-88), 3) := by decide +kernel
theorem dX12_reduce_91 : decode cX12_reduce 91 = .ok (.aload_n 0, 1) := by decide +kernel
theorem dX12_reduce_92 : decode cX12_reduce 92 = .ok (.aload_n 0, 1) := by decide +kernel
theorem dX12_reduce_93 : decode cX12_reduce 93 = .ok (.getfield 63, 3) := by decide +kernel
theorem dX12_reduce_96 : decode cX12_reduce 96 = .ok (.aload_n 0, 1) := by decide +kernel
theorem dX12_reduce_97 : decode cX12_reduce 97 = .ok (.getfield 205, 3) := by decide +kernel
theorem dX12_reduce_100 : decode cX12_reduce 100 = .ok (.iaload, 1) := by decide +kernel
theorem dX12_reduce_101 : decode cX12_reduce 101 = .ok (.lconst 0, 1) := by decide +kernel
theorem dX12_reduce_102 : decode cX12_reduce 102 = .ok (.invokevirtual 212, 3) := by decide +kernel
theorem dX12_reduce_105 : decode cX12_reduce 105 = .ok (.pop, 1) := by decide +kernel
theorem dX12_reduce_106 : decode cX12_reduce 106 = .ok (.goto (-106), 3) := by decide +kernel
theorem dX12_reduce_109 : decode cX12_reduce 109 = .ok (.return_, 1) := by decide +kernel
theorem dX12_compared_0 : decode cX12_compared 0 = .ok (.aload_n 0, 1) := by decide +kernel
theorem dX12_compared_1 : decode cX12_compared 1 = .ok (.getfield 205, 3) := by decide +kernel
theorem dX12_compared_4 : decode cX12_compared 4 = .ok (.aload_n 0, 1) := by decide +kernel
theorem dX12_compared_5 : decode cX12_compared 5 = .ok (.getfield 38, 3) := by decide +kernel
theorem dX12_compared_8 : decode cX12_compared 8 = .ok (.aload_n 0, 1) := by decide +kernel
theorem dX12_compared_9 : decode cX12_compared 9 = .ok (.getfield 199, 3) := by decide +kernel
theorem dX12_compared_12 : decode cX12_compared 12 = .ok (.iconst 1, 1) := by decide +kernel
theorem dX12_compared_13 : decode cX12_compared 13 = .ok (.isub, 1) := by decide +kernel
theorem dX12_compared_14 : decode cX12_compared 14 = .ok (.iaload, 1) := by decide +kernel
theorem dX12_compared_15 : decode cX12_compared 15 = .ok (.if_icmp .le 22, 3) := by decide +kernel
theorem dX12_compared_18 : decode cX12_compared 18 = .ok (.aload_n 0, 1) := by decide +kernel
theorem dX12_compared_19 : decode cX12_compared 19 = .ok (.getfield 66, 3) := by decide +kernel
theorem dX12_compared_22 : decode cX12_compared 22 = .ok (.aload_n 0, 1) := by decide +kernel
theorem dX12_compared_23 : decode cX12_compared 23 = .ok (.getfield 205, 3) := by decide +kernel
theorem dX12_compared_26 : decode cX12_compared 26 = .ok (.iconst 1, 1) := by decide +kernel
theorem dX12_compared_27 : decode cX12_compared 27 = .ok (.isub, 1) := by decide +kernel
theorem dX12_compared_28 : decode cX12_compared 28 = .ok (.iaload, 1) := by decide +kernel
theorem dX12_compared_29 : decode cX12_compared 29 = .ok (.iconst 3, 1) := by decide +kernel
theorem dX12_compared_30 : decode cX12_compared 30 = .ok (.if_icmp .ne 7, 3) := by decide +kernel
theorem dX12_compared_33 : decode cX12_compared 33 = .ok (.iconst 1, 1) := by decide +kernel
theorem dX12_compared_34 : decode cX12_compared 34 = .ok (.goto 4, 3) := by decide +kernel
theorem dX12_compared_37 : decode cX12_compared 37 = .ok (.iconst 0, 1) := by decide +kernel
theorem dX12_compared_38 : decode cX12_compared 38 = .ok (.ireturn, 1) := by decide +kernel
theorem dX12_binary_0 : decode cX12_binary 0 = .ok (.aload_n 0, 1) := by decide +kernel
theorem dX12_binary_1 : decode cX12_binary 1 = .ok (.getfield 19, 3) := by decide +kernel
theorem dX12_binary_4 : decode cX12_binary 4 = .ok (.aload_n 0, 1) := by decide +kernel
theorem dX12_binary_5 : decode cX12_binary 5 = .ok (.getfield 190, 3) := by decide +kernel
theorem dX12_binary_8 : decode cX12_binary 8 = .ok (.laload, 1) := by decide +kernel
theorem dX12_binary_9 : decode cX12_binary 9 = .ok (.l2i, 1) := by decide +kernel
theorem dX12_binary_10 : decode cX12_binary 10 = .ok (.istore_n 2, 1) := by decide +kernel
theorem dX12_binary_11 : decode cX12_binary 11 = .ok (.aload_n 0, 1) := by decide +kernel
theorem dX12_binary_12 : decode cX12_binary 12 = .ok (.dup, 1) := by decide +kernel
theorem dX12_binary_13 : decode cX12_binary 13 = .ok (.getfield 190, 3) := by decide +kernel
theorem dX12_binary_16 : decode cX12_binary 16 = .ok (.iconst 1, 1) := by decide +kernel
theorem dX12_binary_17 : decode cX12_binary 17 = .ok (.iadd, 1) := by decide +kernel
theorem dX12_binary_18 : decode cX12_binary 18 = .ok (.putfield 190, 3) := by decide +kernel
theorem dX12_binary_21 : decode cX12_binary 21 = .ok (.aload_n 0, 1) := by decide +kernel
theorem dX12_binary_22 : decode cX12_binary 22 = .ok (.getfield 57, 3) := by decide +kernel
theorem dX12_binary_25 : decode cX12_binary 25 = .ok (.aload_n 0, 1) := by decide +kernel
theorem dX12_binary_26 : decode cX12_binary 26 = .ok (.getfield 199, 3) := by decide +kernel
theorem dX12_binary_29 : decode cX12_binary 29 = .ok (.iconst 1, 1) := by decide +kernel
theorem dX12_binary_30 : decode cX12_binary 30 = .ok (.isub, 1) := by decide +kernel
theorem dX12_binary_31 : decode cX12_binary 31 = .ok (.iconst 0, 1) := by decide +kernel
theorem dX12_binary_32 : decode cX12_binary 32 = .ok (.bastore, 1) := by decide +kernel
theorem dX12_binary_33 : decode cX12_binary 33 = .ok (.aload_n 0, 1) := by decide +kernel
theorem dX12_binary_34 : decode cX12_binary 34 = .ok (.getfield 66, 3) := by decide +kernel
theorem dX12_binary_37 : decode cX12_binary 37 = .ok (.aload_n 0, 1) := by decide +kernel
theorem dX12_binary_38 : decode cX12_binary 38 = .ok (.getfield 205, 3) := by decide +kernel
theorem dX12_binary_41 : decode cX12_binary 41 = .ok (.iload_n 1, 1) := by decide +kernel
theorem dX12_binary_42 : decode cX12_binary 42 = .ok (.iastore, 1) := by decide +kernel
theorem dX12_binary_43 : decode cX12_binary 43 = .ok (.aload_n 0, 1) := by decide +kernel
theorem dX12_binary_44 : decode cX12_binary 44 = .ok (.getfield 63, 3) := by decide +kernel
theorem dX12_binary_47 : decode cX12_binary 47 = .ok (.aload_n 0, 1) := by decide +kernel
theorem dX12_binary_48 : decode cX12_binary 48 = .ok (.getfield 205, 3) := by decide +kernel
theorem dX12_binary_51 : decode cX12_binary 51 = .ok (.iload_n 1, 1) := by decide +kernel
theorem dX12_binary_52 : decode cX12_binary 52 = .ok (.iconst 2, 1) := by decide +kernel
theorem dX12_binary_53 : decode cX12_binary 53 = .ok (.if_icmp .le 10, 3) := by decide +kernel
theorem dX12_binary_56 : decode cX12_binary 56 = .ok (.iload_n 2, 1) := by decide +kernel
theorem dX12_binary_57 : decode cX12_binary 57 = .ok (.invokestatic 245, 3) := by decide +kernel
theorem dX12_binary_60 : decode cX12_binary 60 = .ok (.goto 4, 3) := by decide +kernel
theorem dX12_binary_63 : decode cX12_binary 63 = .ok (.iconst 0, 1) := by decide +kernel
theorem dX12_binary_64 : decode cX12_binary 64 = .ok (.iastore, 1) := by decide +kernel
theorem dX12_binary_65 : decode cX12_binary 65 = .ok (.aload_n 0, 1) := by decide +kernel
theorem dX12_binary_66 : decode cX12_binary 66 = .ok (.getfield 69, 3) := by decide +kernel
theorem dX12_binary_69 : decode cX12_binary 69 = .ok (.aload_n 0, 1) := by decide +kernel
theorem dX12_binary_70 : decode cX12_binary 70 = .ok (.getfield 205, 3) := by decide +kernel
theorem dX12_binary_73 : decode cX12_binary 73 = .ok (.iload_n 1, 1) := by decide +kernel
theorem dX12_binary_74 : decode cX12_binary 74 = .ok (.iconst 2, 1) := by decide +kernel
theorem dX12_binary_75 : decode cX12_binary 75 = .ok (.if_icmp .le 7, 3) := by decide +kernel
theorem dX12_binary_78 : decode cX12_binary 78 = .ok (.iconst 0, 1) := by decide +kernel
theorem dX12_binary_79 : decode cX12_binary 79 = .ok (.goto 20, 3) := by decide +kernel
theorem dX12_binary_82 : decode cX12_binary 82 = .ok (.aload_n 0, 1) := by decide +kernel
theorem dX12_binary_83 : decode cX12_binary 83 = .ok (.iload_n 1, 1) := by decide +kernel
theorem dX12_binary_84 : decode cX12_binary 84 = .ok (.iconst 2, 1) := by decide +kernel
theorem dX12_binary_85 : decode cX12_binary 85 = .ok (.if_icmp .ne 8, 3) := by decide +kernel
theorem dX12_binary_88 : decode cX12_binary 88 = .ok (.bipush 32, 2) := by decide +kernel
theorem dX12_binary_90 : decode cX12_binary 90 = .ok (.goto 5, 3) := by decide +kernel
theorem dX12_binary_93 : decode cX12_binary 93 = .ok (.bipush 33, 2) := by decide +kernel
theorem dX12_binary_95 : decode cX12_binary 95 = .ok (.lconst 0, 1) := by decide +kernel
theorem dX12_binary_96 : decode cX12_binary 96 = .ok (.invokevirtual 212, 3) := by decide +kernel
theorem dX12_binary_99 : decode cX12_binary 99 = .ok (.iastore, 1) := by decide +kernel
theorem dX12_binary_100 : decode cX12_binary 100 = .ok (.aload_n 0, 1) := by decide +kernel
theorem dX12_binary_101 : decode cX12_binary 101 = .ok (.dup, 1) := by decide +kernel
theorem dX12_binary_102 : decode cX12_binary 102 = .ok (.getfield 205, 3) := by decide +kernel
theorem dX12_binary_105 : decode cX12_binary 105 = .ok (.iconst 1, 1) := by decide +kernel
theorem dX12_binary_106 : decode cX12_binary 106 = .ok (.iadd, 1) := by decide +kernel
theorem dX12_binary_107 : decode cX12_binary 107 = .ok (.putfield 205, 3) := by decide +kernel
theorem dX12_binary_110 : decode cX12_binary 110 = .ok (.aload_n 0, 1) := by decide +kernel
theorem dX12_binary_111 : decode cX12_binary 111 = .ok (.iconst 1, 1) := by decide +kernel
theorem dX12_binary_112 : decode cX12_binary 112 = .ok (.putfield 208, 3) := by decide +kernel
theorem dX12_binary_115 : decode cX12_binary 115 = .ok (.return_, 1) := by decide +kernel
theorem dX12_suffix_0 : decode cX12_suffix 0 = .ok (.aload_n 0, 1) := by decide +kernel
theorem dX12_suffix_1 : decode cX12_suffix 1 = .ok (.sipush 16174, 3) := by decide +kernel
theorem dX12_suffix_4 : decode cX12_suffix 4 = .ok (.invokevirtual 216, 3) := by decide +kernel
theorem dX12_suffix_7 : decode cX12_suffix 7 = .ok (.istore_n 1, 1) := by decide +kernel
theorem dX12_suffix_8 : decode cX12_suffix 8 = .ok (.iload_n 1, 1) := by decide +kernel
theorem dX12_suffix_9 : decode cX12_suffix 9 = .ok (.ifCond .ne 14, 3) := by decide +kernel
theorem dX12_suffix_12 : decode cX12_suffix 12 = .ok (.aload_n 0, 1) := by decide +kernel
theorem dX12_suffix_13 : decode cX12_suffix 13 = .ok (.bipush 46, 2) := by decide +kernel
theorem dX12_suffix_15 : decode cX12_suffix 15 = .ok (.invokevirtual 216, 3) := by decide +kernel
theorem dX12_suffix_18 : decode cX12_suffix 18 = .ok (.ifCond .ne 5, 3) := by decide +kernel
theorem dX12_suffix_21 : decode cX12_suffix 21 = .ok (.iconst 0, 1) := by decide +kernel
theorem dX12_suffix_22 : decode cX12_suffix 22 = .ok (.ireturn, 1) := by decide +kernel
theorem dX12_suffix_23 : decode cX12_suffix 23 = .ok (.aload_n 0, 1) := by decide +kernel
theorem dX12_suffix_24 : decode cX12_suffix 24 = .ok (.dup, 1) := by decide +kernel
theorem dX12_suffix_25 : decode cX12_suffix 25 = .ok (.getfield 190, 3) := by decide +kernel
theorem dX12_suffix_28 : decode cX12_suffix 28 = .ok (.iconst 1, 1) := by decide +kernel
theorem dX12_suffix_29 : decode cX12_suffix 29 = .ok (.iadd, 1) := by decide +kernel
theorem dX12_suffix_30 : decode cX12_suffix 30 = .ok (.putfield 190, 3) := by decide +kernel
theorem dX12_suffix_33 : decode cX12_suffix 33 = .ok (.aload_n 0, 1) := by decide +kernel
theorem dX12_suffix_34 : decode cX12_suffix 34 = .ok (.getfield 13, 3) := by decide +kernel
theorem dX12_suffix_37 : decode cX12_suffix 37 = .ok (.aload_n 0, 1) := by decide +kernel
theorem dX12_suffix_38 : decode cX12_suffix 38 = .ok (.getfield 190, 3) := by decide +kernel
theorem dX12_suffix_41 : decode cX12_suffix 41 = .ok (.iaload, 1) := by decide +kernel
theorem dX12_suffix_42 : decode cX12_suffix 42 = .ok (.iconst 3, 1) := by decide +kernel
theorem dX12_suffix_43 : decode cX12_suffix 43 = .ok (.if_icmp .eq 9, 3) := by decide +kernel
theorem dX12_suffix_46 : decode cX12_suffix 46 = .ok (.aload_n 0, 1) := by decide +kernel
theorem dX12_suffix_47 : decode cX12_suffix 47 = .ok (.invokevirtual 242, 3) := by decide +kernel
theorem dX12_suffix_50 : decode cX12_suffix 50 = .ok (.iconst 1, 1) := by decide +kernel
theorem dX12_suffix_51 : decode cX12_suffix 51 = .ok (.ireturn, 1) := by decide +kernel
theorem dX12_suffix_52 : decode cX12_suffix 52 = .ok (.aload_n 0, 1) := by decide +kernel
theorem dX12_suffix_53 : decode cX12_suffix 53 = .ok (.getfield 19, 3) := by decide +kernel
theorem dX12_suffix_56 : decode cX12_suffix 56 = .ok (.aload_n 0, 1) := by decide +kernel
theorem dX12_suffix_57 : decode cX12_suffix 57 = .ok (.getfield 190, 3) := by decide +kernel
theorem dX12_suffix_60 : decode cX12_suffix 60 = .ok (.laload, 1) := by decide +kernel
theorem dX12_suffix_61 : decode cX12_suffix 61 = .ok (.l2i, 1) := by decide +kernel
theorem dX12_suffix_62 : decode cX12_suffix 62 = .ok (.istore_n 2, 1) := by decide +kernel
theorem dX12_suffix_63 : decode cX12_suffix 63 = .ok (.aload_n 0, 1) := by decide +kernel
theorem dX12_suffix_64 : decode cX12_suffix 64 = .ok (.dup, 1) := by decide +kernel
theorem dX12_suffix_65 : decode cX12_suffix 65 = .ok (.getfield 190, 3) := by decide +kernel
theorem dX12_suffix_68 : decode cX12_suffix 68 = .ok (.iconst 1, 1) := by decide +kernel
theorem dX12_suffix_69 : decode cX12_suffix 69 = .ok (.iadd, 1) := by decide +kernel
theorem dX12_suffix_70 : decode cX12_suffix 70 = .ok (.putfield 190, 3) := by decide +kernel
theorem dX12_suffix_73 : decode cX12_suffix 73 = .ok (.aload_n 0, 1) := by decide +kernel
theorem dX12_suffix_74 : decode cX12_suffix 74 = .ok (.iload_n 2, 1) := by decide +kernel
theorem dX12_suffix_75 : decode cX12_suffix 75 = .ok (.iload_n 1, 1) := by decide +kernel
theorem dX12_suffix_76 : decode cX12_suffix 76 = .ok (.invokevirtual 236, 3) := by decide +kernel
theorem dX12_suffix_79 : decode cX12_suffix 79 = .ok (.iconst 1, 1) := by decide +kernel
theorem dX12_suffix_80 : decode cX12_suffix 80 = .ok (.ireturn, 1) := by decide +kernel
theorem dX12_behind_0 : decode cX12_behind 0 = .ok (.aload_n 0, 1) := by decide +kernel
theorem dX12_behind_1 : decode cX12_behind 1 = .ok (.getfield 199, 3) := by decide +kernel
theorem dX12_behind_4 : decode cX12_behind 4 = .ok (.iconst 1, 1) := by decide +kernel
theorem dX12_behind_5 : decode cX12_behind 5 = .ok (.isub, 1) := by decide +kernel
theorem dX12_behind_6 : decode cX12_behind 6 = .ok (.istore_n 1, 1) := by decide +kernel
theorem dX12_behind_7 : decode cX12_behind 7 = .ok (.aload_n 0, 1) := by decide +kernel
theorem dX12_behind_8 : decode cX12_behind 8 = .ok (.getfield 53, 3) := by decide +kernel
theorem dX12_behind_11 : decode cX12_behind 11 = .ok (.iload_n 1, 1) := by decide +kernel
theorem dX12_behind_12 : decode cX12_behind 12 = .ok (.baload, 1) := by decide +kernel
theorem dX12_behind_13 : decode cX12_behind 13 = .ok (.ifCond .eq 8, 3) := by decide +kernel
theorem dX12_behind_16 : decode cX12_behind 16 = .ok (.aload_n 0, 1) := by decide +kernel
theorem dX12_behind_17 : decode cX12_behind 17 = .ok (.invokevirtual 248, 3) := by decide +kernel
theorem dX12_behind_20 : decode cX12_behind 20 = .ok (.return_, 1) := by decide +kernel
theorem dX12_behind_21 : decode cX12_behind 21 = .ok (.aload_n 0, 1) := by decide +kernel
theorem dX12_behind_22 : decode cX12_behind 22 = .ok (.invokevirtual 251, 3) := by decide +kernel
theorem dX12_behind_25 : decode cX12_behind 25 = .ok (.ifCond .eq 4, 3) := by decide +kernel
theorem dX12_behind_28 : decode cX12_behind 28 = .ok (.return_, 1) := by decide +kernel
theorem dX12_behind_29 : decode cX12_behind 29 = .ok (.aload_n 0, 1) := by decide +kernel
theorem dX12_behind_30 : decode cX12_behind 30 = .ok (.getfield 41, 3) := by decide +kernel
theorem dX12_behind_33 : decode cX12_behind 33 = .ok (.iload_n 1, 1) := by decide +kernel
theorem dX12_behind_34 : decode cX12_behind 34 = .ok (.iaload, 1) := by decide +kernel
theorem dX12_behind_35 : decode cX12_behind 35 = .ok (.ifCond .eq 22, 3) := by decide +kernel
theorem dX12_behind_38 : decode cX12_behind 38 = .ok (.aload_n 0, 1) := by decide +kernel
theorem dX12_behind_39 : decode cX12_behind 39 = .ok (.aload_n 0, 1) := by decide +kernel
theorem dX12_behind_40 : decode cX12_behind 40 = .ok (.getfield 41, 3) := by decide +kernel
theorem dX12_behind_43 : decode cX12_behind 43 = .ok (.iload_n 1, 1) := by decide +kernel
theorem dX12_behind_44 : decode cX12_behind 44 = .ok (.iaload, 1) := by decide +kernel
theorem dX12_behind_45 : decode cX12_behind 45 = .ok (.lconst 0, 1) := by decide +kernel
theorem dX12_behind_46 : decode cX12_behind 46 = .ok (.invokevirtual 212, 3) := by decide +kernel
theorem dX12_behind_49 : decode cX12_behind 49 = .ok (.pop, 1) := by decide +kernel
theorem dX12_behind_50 : decode cX12_behind 50 = .ok (.aload_n 0, 1) := by decide +kernel
theorem dX12_behind_51 : decode cX12_behind 51 = .ok (.getfield 41, 3) := by decide +kernel
theorem dX12_behind_54 : decode cX12_behind 54 = .ok (.iload_n 1, 1) := by decide +kernel
theorem dX12_behind_55 : decode cX12_behind 55 = .ok (.iconst 0, 1) := by decide +kernel
theorem dX12_behind_56 : decode cX12_behind 56 = .ok (.iastore, 1) := by decide +kernel
theorem dX12_behind_57 : decode cX12_behind 57 = .ok (.aload_n 0, 1) := by decide +kernel
theorem dX12_behind_58 : decode cX12_behind 58 = .ok (.invokevirtual 255, 3) := by decide +kernel
theorem dX12_behind_61 : decode cX12_behind 61 = .ok (.istore_n 2, 1) := by decide +kernel
theorem dX12_behind_62 : decode cX12_behind 62 = .ok (.iload_n 2, 1) := by decide +kernel
theorem dX12_behind_63 : decode cX12_behind 63 = .ok (.ifCond .le 17, 3) := by decide +kernel
theorem dX12_behind_66 : decode cX12_behind 66 = .ok (.aload_n 0, 1) := by decide +kernel
theorem dX12_behind_67 : decode cX12_behind 67 = .ok (.iload_n 2, 1) := by decide +kernel
theorem dX12_behind_68 : decode cX12_behind 68 = .ok (.iconst 3, 1) := by decide +kernel
theorem dX12_behind_69 : decode cX12_behind 69 = .ok (.if_icmp .ne 7, 3) := by decide +kernel
theorem dX12_behind_72 : decode cX12_behind 72 = .ok (.iconst 4, 1) := by decide +kernel
theorem dX12_behind_73 : decode cX12_behind 73 = .ok (.goto 4, 3) := by decide +kernel
theorem dX12_behind_76 : decode cX12_behind 76 = .ok (.iload_n 2, 1) := by decide +kernel
theorem dX12_behind_77 : decode cX12_behind 77 = .ok (.invokevirtual 259, 3) := by decide +kernel
theorem dX12_behind_80 : decode cX12_behind 80 = .ok (.iload_n 2, 1) := by decide +kernel
theorem dX12_behind_81 : decode cX12_behind 81 = .ok (.ifCond .le 21, 3) := by decide +kernel
theorem dX12_behind_84 : decode cX12_behind 84 = .ok (.iload_n 2, 1) := by decide +kernel
theorem dX12_behind_85 : decode cX12_behind 85 = .ok (.iconst 3, 1) := by decide +kernel
theorem dX12_behind_86 : decode cX12_behind 86 = .ok (.if_icmp .ne 10, 3) := by decide +kernel
theorem dX12_behind_89 : decode cX12_behind 89 = .ok (.aload_n 0, 1) := by decide +kernel
theorem dX12_behind_90 : decode cX12_behind 90 = .ok (.invokevirtual 262, 3) := by decide +kernel
theorem dX12_behind_93 : decode cX12_behind 93 = .ok (.ifCond .ne 9, 3) := by decide +kernel
theorem dX12_behind_96 : decode cX12_behind 96 = .ok (.aload_n 0, 1) := by decide +kernel
theorem dX12_behind_97 : decode cX12_behind 97 = .ok (.iload_n 2, 1) := by decide +kernel
theorem dX12_behind_98 : decode cX12_behind 98 = .ok (.invokevirtual 265, 3) := by decide +kernel
theorem dX12_behind_101 : decode cX12_behind 101 = .ok (.return_, 1) := by decide +kernel
theorem dX12_behind_102 : decode cX12_behind 102 = .ok (.aload_n 0, 1) := by decide +kernel
theorem dX12_behind_103 : decode cX12_behind 103 = .ok (.bipush 63, 2) := by decide +kernel
theorem dX12_behind_105 : decode cX12_behind 105 = .ok (.invokevirtual 216, 3) := by decide +kernel
theorem dX12_behind_108 : decode cX12_behind 108 = .ok (.istore_n 3, 1) := by decide +kernel
theorem dX12_behind_109 : decode cX12_behind 109 = .ok (.iload_n 2, 1) := by decide +kernel
theorem dX12_behind_110 : decode cX12_behind 110 = .ok (.ifCond .ne 84, 3) := by decide +kernel
theorem dX12_behind_113 : decode cX12_behind 113 = .ok (.iload_n 3, 1) := by decide +kernel
theorem dX12_behind_114 : decode cX12_behind 114 = .ok (.ifCond .ne 13, 3) := by decide +kernel
theorem dX12_behind_117 : decode cX12_behind 117 = .ok (.aload_n 0, 1) := by decide +kernel
theorem dX12_behind_118 : decode cX12_behind 118 = .ok (.sipush 16186, 3) := by decide +kernel
theorem dX12_behind_121 : decode cX12_behind 121 = .ok (.invokevirtual 216, 3) := by decide +kernel
theorem dX12_behind_124 : decode cX12_behind 124 = .ok (.ifCond .eq 70, 3) := by decide +kernel
theorem dX12_behind_127 : decode cX12_behind 127 = .ok (.aload_n 0, 1) := by decide +kernel
theorem dX12_behind_128 : decode cX12_behind 128 = .ok (.iconst 1, 1) := by decide +kernel
theorem dX12_behind_129 : decode cX12_behind 129 = .ok (.invokevirtual 259, 3) := by decide +kernel
theorem dX12_behind_132 : decode cX12_behind 132 = .ok (.aload_n 0, 1) := by decide +kernel
theorem dX12_behind_133 : decode cX12_behind 133 = .ok (.getfield 57, 3) := by decide +kernel
theorem dX12_behind_136 : decode cX12_behind 136 = .ok (.iload_n 1, 1) := by decide +kernel
theorem dX12_behind_137 : decode cX12_behind 137 = .ok (.iconst 0, 1) := by decide +kernel
theorem dX12_behind_138 : decode cX12_behind 138 = .ok (.bastore, 1) := by decide +kernel
theorem dX12_behind_139 : decode cX12_behind 139 = .ok (.aload_n 0, 1) := by decide +kernel
theorem dX12_behind_140 : decode cX12_behind 140 = .ok (.iload_n 3, 1) := by decide +kernel
theorem dX12_behind_141 : decode cX12_behind 141 = .ok (.ifCond .eq 8, 3) := by decide +kernel
theorem dX12_behind_144 : decode cX12_behind 144 = .ok (.bipush 35, 2) := by decide +kernel
theorem dX12_behind_146 : decode cX12_behind 146 = .ok (.goto 5, 3) := by decide +kernel
theorem dX12_behind_149 : decode cX12_behind 149 = .ok (.bipush 37, 2) := by decide +kernel
theorem dX12_behind_151 : decode cX12_behind 151 = .ok (.lconst 0, 1) := by decide +kernel
theorem dX12_behind_152 : decode cX12_behind 152 = .ok (.invokevirtual 212, 3) := by decide +kernel
theorem dX12_behind_155 : decode cX12_behind 155 = .ok (.istore 4, 2) := by decide +kernel
theorem dX12_behind_157 : decode cX12_behind 157 = .ok (.aload_n 0, 1) := by decide +kernel
theorem dX12_behind_158 : decode cX12_behind 158 = .ok (.dup, 1) := by decide +kernel
theorem dX12_behind_159 : decode cX12_behind 159 = .ok (.getfield 190, 3) := by decide +kernel
theorem dX12_behind_162 : decode cX12_behind 162 = .ok (.iconst 1, 1) := by decide +kernel
theorem dX12_behind_163 : decode cX12_behind 163 = .ok (.iadd, 1) := by decide +kernel
theorem dX12_behind_164 : decode cX12_behind 164 = .ok (.putfield 190, 3) := by decide +kernel
theorem dX12_behind_167 : decode cX12_behind 167 = .ok (.aload_n 0, 1) := by decide +kernel
theorem dX12_behind_168 : decode cX12_behind 168 = .ok (.iload_n 3, 1) := by decide +kernel
theorem dX12_behind_169 : decode cX12_behind 169 = .ok (.ifCond .eq 7, 3) := by decide +kernel
theorem dX12_behind_172 : decode cX12_behind 172 = .ok (.iconst 4, 1) := by decide +kernel
theorem dX12_behind_173 : decode cX12_behind 173 = .ok (.goto 4, 3) := by decide +kernel
theorem dX12_behind_176 : decode cX12_behind 176 = .ok (.iconst 5, 1) := by decide +kernel
theorem dX12_behind_177 : decode cX12_behind 177 = .ok (.invokevirtual 225, 3) := by decide +kernel
theorem dX12_behind_180 : decode cX12_behind 180 = .ok (.aload_n 0, 1) := by decide +kernel
theorem dX12_behind_181 : decode cX12_behind 181 = .ok (.getfield 44, 3) := by decide +kernel
theorem dX12_behind_184 : decode cX12_behind 184 = .ok (.aload_n 0, 1) := by decide +kernel
theorem dX12_behind_185 : decode cX12_behind 185 = .ok (.getfield 199, 3) := by decide +kernel
theorem dX12_behind_188 : decode cX12_behind 188 = .ok (.iconst 1, 1) := by decide +kernel
theorem dX12_behind_189 : decode cX12_behind 189 = .ok (.isub, 1) := by decide +kernel
theorem dX12_behind_190 : decode cX12_behind 190 = .ok (.iload 4, 2) := by decide +kernel
theorem dX12_behind_192 : decode cX12_behind 192 = .ok (.iastore, 1) := by decide +kernel
theorem dX12_behind_193 : decode cX12_behind 193 = .ok (.return_, 1) := by decide +kernel
theorem dX12_behind_194 : decode cX12_behind 194 = .ok (.aload_n 0, 1) := by decide +kernel
theorem dX12_behind_195 : decode cX12_behind 195 = .ok (.invokevirtual 248, 3) := by decide +kernel
theorem dX12_behind_198 : decode cX12_behind 198 = .ok (.return_, 1) := by decide +kernel
theorem dX12_assign_0 : decode cX12_assign 0 = .ok (.aload_n 0, 1) := by decide +kernel
theorem dX12_assign_1 : decode cX12_assign 1 = .ok (.getfield 35, 3) := by decide +kernel
theorem dX12_assign_4 : decode cX12_assign 4 = .ok (.iconst 0, 1) := by decide +kernel
theorem dX12_assign_5 : decode cX12_assign 5 = .ok (.iaload, 1) := by decide +kernel
theorem dX12_assign_6 : decode cX12_assign 6 = .ok (.ifCond .ne 34, 3) := by decide +kernel
theorem dX12_assign_9 : decode cX12_assign 9 = .ok (.aload_n 0, 1) := by decide +kernel
theorem dX12_assign_10 : decode cX12_assign 10 = .ok (.bipush 61, 2) := by decide +kernel
theorem dX12_assign_12 : decode cX12_assign 12 = .ok (.invokevirtual 216, 3) := by decide +kernel
theorem dX12_assign_15 : decode cX12_assign 15 = .ok (.ifCond .eq 25, 3) := by decide +kernel
theorem dX12_assign_18 : decode cX12_assign 18 = .ok (.aload_n 0, 1) := by decide +kernel
theorem dX12_assign_19 : decode cX12_assign 19 = .ok (.getfield 57, 3) := by decide +kernel
theorem dX12_assign_22 : decode cX12_assign 22 = .ok (.iconst 0, 1) := by decide +kernel
theorem dX12_assign_23 : decode cX12_assign 23 = .ok (.baload, 1) := by decide +kernel
theorem dX12_assign_24 : decode cX12_assign 24 = .ok (.ifCond .eq 16, 3) := by decide +kernel
theorem dX12_assign_27 : decode cX12_assign 27 = .ok (.aload_n 0, 1) := by decide +kernel
theorem dX12_assign_28 : decode cX12_assign 28 = .ok (.getfield 60, 3) := by decide +kernel
theorem dX12_assign_31 : decode cX12_assign 31 = .ok (.iconst 0, 1) := by decide +kernel
theorem dX12_assign_32 : decode cX12_assign 32 = .ok (.baload, 1) := by decide +kernel
theorem dX12_assign_33 : decode cX12_assign 33 = .ok (.ifCond .eq 7, 3) := by decide +kernel
theorem dX12_assign_36 : decode cX12_assign 36 = .ok (.iconst 1, 1) := by decide +kernel
theorem dX12_assign_37 : decode cX12_assign 37 = .ok (.goto 4, 3) := by decide +kernel
theorem dX12_assign_40 : decode cX12_assign 40 = .ok (.iconst 0, 1) := by decide +kernel
theorem dX12_assign_41 : decode cX12_assign 41 = .ok (.istore_n 1, 1) := by decide +kernel
theorem dX12_assign_42 : decode cX12_assign 42 = .ok (.iload_n 1, 1) := by decide +kernel
theorem dX12_assign_43 : decode cX12_assign 43 = .ok (.ifCond .ne 8, 3) := by decide +kernel
theorem dX12_assign_46 : decode cX12_assign 46 = .ok (.aload_n 0, 1) := by decide +kernel
theorem dX12_assign_47 : decode cX12_assign 47 = .ok (.invokevirtual 242, 3) := by decide +kernel
theorem dX12_assign_50 : decode cX12_assign 50 = .ok (.return_, 1) := by decide +kernel
theorem dX12_assign_51 : decode cX12_assign 51 = .ok (.aload_n 0, 1) := by decide +kernel
theorem dX12_assign_52 : decode cX12_assign 52 = .ok (.dup, 1) := by decide +kernel
theorem dX12_assign_53 : decode cX12_assign 53 = .ok (.getfield 190, 3) := by decide +kernel
theorem dX12_assign_56 : decode cX12_assign 56 = .ok (.iconst 1, 1) := by decide +kernel
theorem dX12_assign_57 : decode cX12_assign 57 = .ok (.iadd, 1) := by decide +kernel
theorem dX12_assign_58 : decode cX12_assign 58 = .ok (.putfield 190, 3) := by decide +kernel
theorem dX12_assign_61 : decode cX12_assign 61 = .ok (.aload_n 0, 1) := by decide +kernel
theorem dX12_assign_62 : decode cX12_assign 62 = .ok (.dup, 1) := by decide +kernel
theorem dX12_assign_63 : decode cX12_assign 63 = .ok (.getfield 196, 3) := by decide +kernel
theorem dX12_assign_66 : decode cX12_assign 66 = .ok (.iconst 1, 1) := by decide +kernel
theorem dX12_assign_67 : decode cX12_assign 67 = .ok (.isub, 1) := by decide +kernel
theorem dX12_assign_68 : decode cX12_assign 68 = .ok (.putfield 196, 3) := by decide +kernel
theorem dX12_assign_71 : decode cX12_assign 71 = .ok (.aload_n 0, 1) := by decide +kernel
theorem dX12_assign_72 : decode cX12_assign 72 = .ok (.getfield 26, 3) := by decide +kernel
theorem dX12_assign_75 : decode cX12_assign 75 = .ok (.aload_n 0, 1) := by decide +kernel
theorem dX12_assign_76 : decode cX12_assign 76 = .ok (.getfield 193, 3) := by decide +kernel
theorem dX12_assign_79 : decode cX12_assign 79 = .ok (.aload_n 0, 1) := by decide +kernel
theorem dX12_assign_80 : decode cX12_assign 80 = .ok (.getfield 196, 3) := by decide +kernel
theorem dX12_assign_83 : decode cX12_assign 83 = .ok (.iadd, 1) := by decide +kernel
theorem dX12_assign_84 : decode cX12_assign 84 = .ok (.iaload, 1) := by decide +kernel
theorem dX12_assign_85 : decode cX12_assign 85 = .ok (.istore_n 2, 1) := by decide +kernel
theorem dX12_assign_86 : decode cX12_assign 86 = .ok (.aload_n 0, 1) := by decide +kernel
theorem dX12_assign_87 : decode cX12_assign 87 = .ok (.aload_n 0, 1) := by decide +kernel
theorem dX12_assign_88 : decode cX12_assign 88 = .ok (.getfield 29, 3) := by decide +kernel
theorem dX12_assign_91 : decode cX12_assign 91 = .ok (.aload_n 0, 1) := by decide +kernel
theorem dX12_assign_92 : decode cX12_assign 92 = .ok (.getfield 193, 3) := by decide +kernel
theorem dX12_assign_95 : decode cX12_assign 95 = .ok (.aload_n 0, 1) := by decide +kernel
theorem dX12_assign_96 : decode cX12_assign 96 = .ok (.getfield 196, 3) := by decide +kernel
theorem dX12_assign_99 : decode cX12_assign 99 = .ok (.iadd, 1) := by decide +kernel
theorem dX12_assign_100 : decode cX12_assign 100 = .ok (.laload, 1) := by decide +kernel
theorem dX12_assign_101 : decode cX12_assign 101 = .ok (.l2i, 1) := by decide +kernel
theorem dX12_assign_102 : decode cX12_assign 102 = .ok (.putfield 268, 3) := by decide +kernel
theorem dX12_assign_105 : decode cX12_assign 105 = .ok (.aload_n 0, 1) := by decide +kernel
theorem dX12_assign_106 : decode cX12_assign 106 = .ok (.iload_n 2, 1) := by decide +kernel
theorem dX12_assign_107 : decode cX12_assign 107 = .ok (.bipush 9, 2) := by decide +kernel
theorem dX12_assign_109 : decode cX12_assign 109 = .ok (.if_icmp .ne 8, 3) := by decide +kernel
theorem dX12_assign_112 : decode cX12_assign 112 = .ok (.bipush 38, 2) := by decide +kernel
theorem dX12_assign_114 : decode cX12_assign 114 = .ok (.goto 5, 3) := by decide +kernel
theorem dX12_assign_117 : decode cX12_assign 117 = .ok (.bipush 40, 2) := by decide +kernel
theorem dX12_assign_119 : decode cX12_assign 119 = .ok (.putfield 271, 3) := by decide +kernel
theorem dX12_assign_122 : decode cX12_assign 122 = .ok (.iload_n 2, 1) := by decide +kernel
theorem dX12_assign_123 : decode cX12_assign 123 = .ok (.bipush 9, 2) := by decide +kernel
theorem dX12_assign_125 : decode cX12_assign 125 = .ok (.if_icmp .eq 15, 3) := by decide +kernel
theorem dX12_assign_128 : decode cX12_assign 128 = .ok (.aload_n 0, 1) := by decide +kernel
theorem dX12_assign_129 : decode cX12_assign 129 = .ok (.bipush 39, 2) := by decide +kernel
theorem dX12_assign_131 : decode cX12_assign 131 = .ok (.aload_n 0, 1) := by decide +kernel
theorem dX12_assign_132 : decode cX12_assign 132 = .ok (.getfield 268, 3) := by decide +kernel
theorem dX12_assign_135 : decode cX12_assign 135 = .ok (.i2l, 1) := by decide +kernel
theorem dX12_assign_136 : decode cX12_assign 136 = .ok (.invokevirtual 212, 3) := by decide +kernel
theorem dX12_assign_139 : decode cX12_assign 139 = .ok (.pop, 1) := by decide +kernel
theorem dX12_assign_140 : decode cX12_assign 140 = .ok (.aload_n 0, 1) := by decide +kernel
theorem dX12_assign_141 : decode cX12_assign 141 = .ok (.getfield 35, 3) := by decide +kernel
theorem dX12_assign_144 : decode cX12_assign 144 = .ok (.iconst 0, 1) := by decide +kernel
theorem dX12_assign_145 : decode cX12_assign 145 = .ok (.iconst 1, 1) := by decide +kernel
theorem dX12_assign_146 : decode cX12_assign 146 = .ok (.iastore, 1) := by decide +kernel
theorem dX12_assign_147 : decode cX12_assign 147 = .ok (.aload_n 0, 1) := by decide +kernel
theorem dX12_assign_148 : decode cX12_assign 148 = .ok (.invokevirtual 202, 3) := by decide +kernel
theorem dX12_assign_151 : decode cX12_assign 151 = .ok (.return_, 1) := by decide +kernel
theorem dX12_argument_0 : decode cX12_argument 0 = .ok (.aload_n 0, 1) := by decide +kernel
theorem dX12_argument_1 : decode cX12_argument 1 = .ok (.getfield 199, 3) := by decide +kernel
theorem dX12_argument_4 : decode cX12_argument 4 = .ok (.iconst 1, 1) := by decide +kernel
theorem dX12_argument_5 : decode cX12_argument 5 = .ok (.isub, 1) := by decide +kernel
theorem dX12_argument_6 : decode cX12_argument 6 = .ok (.istore_n 1, 1) := by decide +kernel
theorem dX12_argument_7 : decode cX12_argument 7 = .ok (.aload_n 0, 1) := by decide +kernel
theorem dX12_argument_8 : decode cX12_argument 8 = .ok (.bipush 44, 2) := by decide +kernel
theorem dX12_argument_10 : decode cX12_argument 10 = .ok (.invokevirtual 216, 3) := by decide +kernel
theorem dX12_argument_13 : decode cX12_argument 13 = .ok (.ifCond .eq 35, 3) := by decide +kernel
theorem dX12_argument_16 : decode cX12_argument 16 = .ok (.aload_n 0, 1) := by decide +kernel
theorem dX12_argument_17 : decode cX12_argument 17 = .ok (.getfield 50, 3) := by decide +kernel
theorem dX12_argument_20 : decode cX12_argument 20 = .ok (.iload_n 1, 1) := by decide +kernel
theorem dX12_argument_21 : decode cX12_argument 21 = .ok (.iaload, 1) := by decide +kernel
theorem dX12_argument_22 : decode cX12_argument 22 = .ok (.iconst 1, 1) := by decide +kernel
theorem dX12_argument_23 : decode cX12_argument 23 = .ok (.if_icmp .ne 25, 3) := by decide +kernel
theorem dX12_argument_26 : decode cX12_argument 26 = .ok (.aload_n 0, 1) := by decide +kernel
theorem dX12_argument_27 : decode cX12_argument 27 = .ok (.dup, 1) := by decide +kernel
theorem dX12_argument_28 : decode cX12_argument 28 = .ok (.getfield 190, 3) := by decide +kernel
theorem dX12_argument_31 : decode cX12_argument 31 = .ok (.iconst 1, 1) := by decide +kernel
theorem dX12_argument_32 : decode cX12_argument 32 = .ok (.iadd, 1) := by decide +kernel
theorem dX12_argument_33 : decode cX12_argument 33 = .ok (.putfield 190, 3) := by decide +kernel
theorem dX12_argument_36 : decode cX12_argument 36 = .ok (.aload_n 0, 1) := by decide +kernel
theorem dX12_argument_37 : decode cX12_argument 37 = .ok (.getfield 50, 3) := by decide +kernel
theorem dX12_argument_40 : decode cX12_argument 40 = .ok (.iload_n 1, 1) := by decide +kernel
theorem dX12_argument_41 : decode cX12_argument 41 = .ok (.iconst 2, 1) := by decide +kernel
theorem dX12_argument_42 : decode cX12_argument 42 = .ok (.iastore, 1) := by decide +kernel
theorem dX12_argument_43 : decode cX12_argument 43 = .ok (.aload_n 0, 1) := by decide +kernel
theorem dX12_argument_44 : decode cX12_argument 44 = .ok (.invokevirtual 202, 3) := by decide +kernel
theorem dX12_argument_47 : decode cX12_argument 47 = .ok (.return_, 1) := by decide +kernel
theorem dX12_argument_48 : decode cX12_argument 48 = .ok (.aload_n 0, 1) := by decide +kernel
theorem dX12_argument_49 : decode cX12_argument 49 = .ok (.bipush 41, 2) := by decide +kernel
theorem dX12_argument_51 : decode cX12_argument 51 = .ok (.invokevirtual 216, 3) := by decide +kernel
theorem dX12_argument_54 : decode cX12_argument 54 = .ok (.ifCond .ne 8, 3) := by decide +kernel
theorem dX12_argument_57 : decode cX12_argument 57 = .ok (.aload_n 0, 1) := by decide +kernel
theorem dX12_argument_58 : decode cX12_argument 58 = .ok (.invokevirtual 242, 3) := by decide +kernel
theorem dX12_argument_61 : decode cX12_argument 61 = .ok (.return_, 1) := by decide +kernel
theorem dX12_argument_62 : decode cX12_argument 62 = .ok (.aload_n 0, 1) := by decide +kernel
theorem dX12_argument_63 : decode cX12_argument 63 = .ok (.dup, 1) := by decide +kernel
theorem dX12_argument_64 : decode cX12_argument 64 = .ok (.getfield 190, 3) := by decide +kernel
theorem dX12_argument_67 : decode cX12_argument 67 = .ok (.iconst 1, 1) := by decide +kernel
theorem dX12_argument_68 : decode cX12_argument 68 = .ok (.iadd, 1) := by decide +kernel
theorem dX12_argument_69 : decode cX12_argument 69 = .ok (.putfield 190, 3) := by decide +kernel
theorem dX12_argument_72 : decode cX12_argument 72 = .ok (.aload_n 0, 1) := by decide +kernel
theorem dX12_argument_73 : decode cX12_argument 73 = .ok (.bipush 15, 2) := by decide +kernel
theorem dX12_argument_75 : decode cX12_argument 75 = .ok (.ldc2_w 219, 3) := by decide +kernel
theorem dX12_argument_78 : decode cX12_argument 78 = .ok (.aload_n 0, 1) := by decide +kernel
theorem dX12_argument_79 : decode cX12_argument 79 = .ok (.getfield 47, 3) := by decide +kernel
theorem dX12_argument_82 : decode cX12_argument 82 = .ok (.iload_n 1, 1) := by decide +kernel
theorem dX12_argument_83 : decode cX12_argument 83 = .ok (.iaload, 1) := by decide +kernel
theorem dX12_argument_84 : decode cX12_argument 84 = .ok (.i2l, 1) := by decide +kernel
theorem dX12_argument_85 : decode cX12_argument 85 = .ok (.lmul, 1) := by decide +kernel
theorem dX12_argument_86 : decode cX12_argument 86 = .ok (.aload_n 0, 1) := by decide +kernel
theorem dX12_argument_87 : decode cX12_argument 87 = .ok (.getfield 50, 3) := by decide +kernel
theorem dX12_argument_90 : decode cX12_argument 90 = .ok (.iload_n 1, 1) := by decide +kernel
theorem dX12_argument_91 : decode cX12_argument 91 = .ok (.iaload, 1) := by decide +kernel
theorem dX12_argument_92 : decode cX12_argument 92 = .ok (.i2l, 1) := by decide +kernel
theorem dX12_argument_93 : decode cX12_argument 93 = .ok (.ladd, 1) := by decide +kernel
theorem dX12_argument_94 : decode cX12_argument 94 = .ok (.invokevirtual 212, 3) := by decide +kernel
theorem dX12_argument_97 : decode cX12_argument 97 = .ok (.pop, 1) := by decide +kernel
theorem dX12_argument_98 : decode cX12_argument 98 = .ok (.aload_n 0, 1) := by decide +kernel
theorem dX12_argument_99 : decode cX12_argument 99 = .ok (.getfield 29, 3) := by decide +kernel
theorem dX12_argument_102 : decode cX12_argument 102 = .ok (.aload_n 0, 1) := by decide +kernel
theorem dX12_argument_103 : decode cX12_argument 103 = .ok (.getfield 44, 3) := by decide +kernel
theorem dX12_argument_106 : decode cX12_argument 106 = .ok (.iload_n 1, 1) := by decide +kernel
theorem dX12_argument_107 : decode cX12_argument 107 = .ok (.iaload, 1) := by decide +kernel
theorem dX12_argument_108 : decode cX12_argument 108 = .ok (.aload_n 0, 1) := by decide +kernel
theorem dX12_argument_109 : decode cX12_argument 109 = .ok (.getfield 193, 3) := by decide +kernel
theorem dX12_argument_112 : decode cX12_argument 112 = .ok (.aload_n 0, 1) := by decide +kernel
theorem dX12_argument_113 : decode cX12_argument 113 = .ok (.getfield 196, 3) := by decide +kernel
theorem dX12_argument_116 : decode cX12_argument 116 = .ok (.iadd, 1) := by decide +kernel
theorem dX12_argument_117 : decode cX12_argument 117 = .ok (.i2l, 1) := by decide +kernel
theorem dX12_argument_118 : decode cX12_argument 118 = .ok (.lastore, 1) := by decide +kernel
theorem dX12_argument_119 : decode cX12_argument 119 = .ok (.aload_n 0, 1) := by decide +kernel
theorem dX12_argument_120 : decode cX12_argument 120 = .ok (.dup, 1) := by decide +kernel
theorem dX12_argument_121 : decode cX12_argument 121 = .ok (.getfield 199, 3) := by decide +kernel
theorem dX12_argument_124 : decode cX12_argument 124 = .ok (.iconst 1, 1) := by decide +kernel
theorem dX12_argument_125 : decode cX12_argument 125 = .ok (.isub, 1) := by decide +kernel
theorem dX12_argument_126 : decode cX12_argument 126 = .ok (.putfield 199, 3) := by decide +kernel
theorem dX12_argument_129 : decode cX12_argument 129 = .ok (.aload_n 0, 1) := by decide +kernel
theorem dX12_argument_130 : decode cX12_argument 130 = .ok (.iconst 0, 1) := by decide +kernel
theorem dX12_argument_131 : decode cX12_argument 131 = .ok (.invokevirtual 221, 3) := by decide +kernel
theorem dX12_argument_134 : decode cX12_argument 134 = .ok (.return_, 1) := by decide +kernel
theorem dX12_finish_0 : decode cX12_finish 0 = .ok (.aload_n 0, 1) := by decide +kernel
theorem dX12_finish_1 : decode cX12_finish 1 = .ok (.getfield 199, 3) := by decide +kernel
theorem dX12_finish_4 : decode cX12_finish 4 = .ok (.iconst 1, 1) := by decide +kernel
theorem dX12_finish_5 : decode cX12_finish 5 = .ok (.isub, 1) := by decide +kernel
theorem dX12_finish_6 : decode cX12_finish 6 = .ok (.istore_n 1, 1) := by decide +kernel
theorem dX12_finish_7 : decode cX12_finish 7 = .ok (.aload_n 0, 1) := by decide +kernel
theorem dX12_finish_8 : decode cX12_finish 8 = .ok (.iconst 1, 1) := by decide +kernel
theorem dX12_finish_9 : decode cX12_finish 9 = .ok (.invokevirtual 259, 3) := by decide +kernel
theorem dX12_finish_12 : decode cX12_finish 12 = .ok (.aload_n 0, 1) := by decide +kernel
theorem dX12_finish_13 : decode cX12_finish 13 = .ok (.getfield 35, 3) := by decide +kernel
theorem dX12_finish_16 : decode cX12_finish 16 = .ok (.iload_n 1, 1) := by decide +kernel
theorem dX12_finish_17 : decode cX12_finish 17 = .ok (.iaload, 1) := by decide +kernel
theorem dX12_finish_18 : decode cX12_finish 18 = .ok (.iconst 5, 1) := by decide +kernel
theorem dX12_finish_19 : decode cX12_finish 19 = .ok (.if_icmp .ne 61, 3) := by decide +kernel
theorem dX12_finish_22 : decode cX12_finish 22 = .ok (.aload_n 0, 1) := by decide +kernel
theorem dX12_finish_23 : decode cX12_finish 23 = .ok (.getfield 29, 3) := by decide +kernel
theorem dX12_finish_26 : decode cX12_finish 26 = .ok (.aload_n 0, 1) := by decide +kernel
theorem dX12_finish_27 : decode cX12_finish 27 = .ok (.getfield 44, 3) := by decide +kernel
theorem dX12_finish_30 : decode cX12_finish 30 = .ok (.iload_n 1, 1) := by decide +kernel
theorem dX12_finish_31 : decode cX12_finish 31 = .ok (.iaload, 1) := by decide +kernel
theorem dX12_finish_32 : decode cX12_finish 32 = .ok (.aload_n 0, 1) := by decide +kernel
theorem dX12_finish_33 : decode cX12_finish 33 = .ok (.getfield 193, 3) := by decide +kernel
theorem dX12_finish_36 : decode cX12_finish 36 = .ok (.aload_n 0, 1) := by decide +kernel
theorem dX12_finish_37 : decode cX12_finish 37 = .ok (.getfield 196, 3) := by decide +kernel
theorem dX12_finish_40 : decode cX12_finish 40 = .ok (.iadd, 1) := by decide +kernel
theorem dX12_finish_41 : decode cX12_finish 41 = .ok (.i2l, 1) := by decide +kernel
theorem dX12_finish_42 : decode cX12_finish 42 = .ok (.lastore, 1) := by decide +kernel
theorem dX12_finish_43 : decode cX12_finish 43 = .ok (.aload_n 0, 1) := by decide +kernel
theorem dX12_finish_44 : decode cX12_finish 44 = .ok (.dup, 1) := by decide +kernel
theorem dX12_finish_45 : decode cX12_finish 45 = .ok (.getfield 199, 3) := by decide +kernel
theorem dX12_finish_48 : decode cX12_finish 48 = .ok (.iconst 1, 1) := by decide +kernel
theorem dX12_finish_49 : decode cX12_finish 49 = .ok (.isub, 1) := by decide +kernel
theorem dX12_finish_50 : decode cX12_finish 50 = .ok (.putfield 199, 3) := by decide +kernel
theorem dX12_finish_53 : decode cX12_finish 53 = .ok (.aload_n 0, 1) := by decide +kernel
theorem dX12_finish_54 : decode cX12_finish 54 = .ok (.getfield 53, 3) := by decide +kernel
theorem dX12_finish_57 : decode cX12_finish 57 = .ok (.aload_n 0, 1) := by decide +kernel
theorem dX12_finish_58 : decode cX12_finish 58 = .ok (.getfield 199, 3) := by decide +kernel
theorem dX12_finish_61 : decode cX12_finish 61 = .ok (.iconst 1, 1) := by decide +kernel
theorem dX12_finish_62 : decode cX12_finish 62 = .ok (.isub, 1) := by decide +kernel
theorem dX12_finish_63 : decode cX12_finish 63 = .ok (.iconst 1, 1) := by decide +kernel
theorem dX12_finish_64 : decode cX12_finish 64 = .ok (.bastore, 1) := by decide +kernel
theorem dX12_finish_65 : decode cX12_finish 65 = .ok (.aload_n 0, 1) := by decide +kernel
theorem dX12_finish_66 : decode cX12_finish 66 = .ok (.getfield 57, 3) := by decide +kernel
theorem dX12_finish_69 : decode cX12_finish 69 = .ok (.aload_n 0, 1) := by decide +kernel
theorem dX12_finish_70 : decode cX12_finish 70 = .ok (.getfield 199, 3) := by decide +kernel
theorem dX12_finish_73 : decode cX12_finish 73 = .ok (.iconst 1, 1) := by decide +kernel
theorem dX12_finish_74 : decode cX12_finish 74 = .ok (.isub, 1) := by decide +kernel
theorem dX12_finish_75 : decode cX12_finish 75 = .ok (.iconst 0, 1) := by decide +kernel
theorem dX12_finish_76 : decode cX12_finish 76 = .ok (.bastore, 1) := by decide +kernel
theorem dX12_finish_77 : decode cX12_finish 77 = .ok (.goto 204, 3) := by decide +kernel
theorem dX12_finish_80 : decode cX12_finish 80 = .ok (.aload_n 0, 1) := by decide +kernel
theorem dX12_finish_81 : decode cX12_finish 81 = .ok (.getfield 35, 3) := by decide +kernel
theorem dX12_finish_84 : decode cX12_finish 84 = .ok (.iload_n 1, 1) := by decide +kernel
theorem dX12_finish_85 : decode cX12_finish 85 = .ok (.iaload, 1) := by decide +kernel
theorem dX12_finish_86 : decode cX12_finish 86 = .ok (.iconst 4, 1) := by decide +kernel
theorem dX12_finish_87 : decode cX12_finish 87 = .ok (.if_icmp .ne 77, 3) := by decide +kernel
theorem dX12_finish_90 : decode cX12_finish 90 = .ok (.aload_n 0, 1) := by decide +kernel
theorem dX12_finish_91 : decode cX12_finish 91 = .ok (.bipush 58, 2) := by decide +kernel
theorem dX12_finish_93 : decode cX12_finish 93 = .ok (.invokevirtual 216, 3) := by decide +kernel
theorem dX12_finish_96 : decode cX12_finish 96 = .ok (.ifCond .ne 8, 3) := by decide +kernel
theorem dX12_finish_99 : decode cX12_finish 99 = .ok (.aload_n 0, 1) := by decide +kernel
theorem dX12_finish_100 : decode cX12_finish 100 = .ok (.invokevirtual 242, 3) := by decide +kernel
theorem dX12_finish_103 : decode cX12_finish 103 = .ok (.return_, 1) := by decide +kernel
theorem dX12_finish_104 : decode cX12_finish 104 = .ok (.aload_n 0, 1) := by decide +kernel
theorem dX12_finish_105 : decode cX12_finish 105 = .ok (.dup, 1) := by decide +kernel
theorem dX12_finish_106 : decode cX12_finish 106 = .ok (.getfield 190, 3) := by decide +kernel
theorem dX12_finish_109 : decode cX12_finish 109 = .ok (.iconst 1, 1) := by decide +kernel
theorem dX12_finish_110 : decode cX12_finish 110 = .ok (.iadd, 1) := by decide +kernel
theorem dX12_finish_111 : decode cX12_finish 111 = .ok (.putfield 190, 3) := by decide +kernel
theorem dX12_finish_114 : decode cX12_finish 114 = .ok (.aload_n 0, 1) := by decide +kernel
theorem dX12_finish_115 : decode cX12_finish 115 = .ok (.bipush 36, 2) := by decide +kernel
theorem dX12_finish_117 : decode cX12_finish 117 = .ok (.lconst 0, 1) := by decide +kernel
theorem dX12_finish_118 : decode cX12_finish 118 = .ok (.invokevirtual 212, 3) := by decide +kernel
theorem dX12_finish_121 : decode cX12_finish 121 = .ok (.istore_n 2, 1) := by decide +kernel
theorem dX12_finish_122 : decode cX12_finish 122 = .ok (.aload_n 0, 1) := by decide +kernel
theorem dX12_finish_123 : decode cX12_finish 123 = .ok (.getfield 29, 3) := by decide +kernel
theorem dX12_finish_126 : decode cX12_finish 126 = .ok (.aload_n 0, 1) := by decide +kernel
theorem dX12_finish_127 : decode cX12_finish 127 = .ok (.getfield 44, 3) := by decide +kernel
theorem dX12_finish_130 : decode cX12_finish 130 = .ok (.iload_n 1, 1) := by decide +kernel
theorem dX12_finish_131 : decode cX12_finish 131 = .ok (.iaload, 1) := by decide +kernel
theorem dX12_finish_132 : decode cX12_finish 132 = .ok (.aload_n 0, 1) := by decide +kernel
theorem dX12_finish_133 : decode cX12_finish 133 = .ok (.getfield 193, 3) := by decide +kernel
theorem dX12_finish_136 : decode cX12_finish 136 = .ok (.aload_n 0, 1) := by decide +kernel
theorem dX12_finish_137 : decode cX12_finish 137 = .ok (.getfield 196, 3) := by decide +kernel
theorem dX12_finish_140 : decode cX12_finish 140 = .ok (.iadd, 1) := by decide +kernel
theorem dX12_finish_141 : decode cX12_finish 141 = .ok (.i2l, 1) := by decide +kernel
theorem dX12_finish_142 : decode cX12_finish 142 = .ok (.lastore, 1) := by decide +kernel
theorem dX12_finish_143 : decode cX12_finish 143 = .ok (.aload_n 0, 1) := by decide +kernel
theorem dX12_finish_144 : decode cX12_finish 144 = .ok (.getfield 35, 3) := by decide +kernel
theorem dX12_finish_147 : decode cX12_finish 147 = .ok (.iload_n 1, 1) := by decide +kernel
theorem dX12_finish_148 : decode cX12_finish 148 = .ok (.iconst 5, 1) := by decide +kernel
theorem dX12_finish_149 : decode cX12_finish 149 = .ok (.iastore, 1) := by decide +kernel
theorem dX12_finish_150 : decode cX12_finish 150 = .ok (.aload_n 0, 1) := by decide +kernel
theorem dX12_finish_151 : decode cX12_finish 151 = .ok (.getfield 44, 3) := by decide +kernel
theorem dX12_finish_154 : decode cX12_finish 154 = .ok (.iload_n 1, 1) := by decide +kernel
theorem dX12_finish_155 : decode cX12_finish 155 = .ok (.iload_n 2, 1) := by decide +kernel
theorem dX12_finish_156 : decode cX12_finish 156 = .ok (.iastore, 1) := by decide +kernel
theorem dX12_finish_157 : decode cX12_finish 157 = .ok (.aload_n 0, 1) := by decide +kernel
theorem dX12_finish_158 : decode cX12_finish 158 = .ok (.invokevirtual 202, 3) := by decide +kernel
theorem dX12_finish_161 : decode cX12_finish 161 = .ok (.goto 120, 3) := by decide +kernel
theorem dX12_finish_164 : decode cX12_finish 164 = .ok (.aload_n 0, 1) := by decide +kernel
theorem dX12_finish_165 : decode cX12_finish 165 = .ok (.getfield 35, 3) := by decide +kernel
theorem dX12_finish_168 : decode cX12_finish 168 = .ok (.iload_n 1, 1) := by decide +kernel
theorem dX12_finish_169 : decode cX12_finish 169 = .ok (.iaload, 1) := by decide +kernel
theorem dX12_finish_170 : decode cX12_finish 170 = .ok (.iconst 2, 1) := by decide +kernel
theorem dX12_finish_171 : decode cX12_finish 171 = .ok (.if_icmp .ne 45, 3) := by decide +kernel
theorem dX12_finish_174 : decode cX12_finish 174 = .ok (.aload_n 0, 1) := by decide +kernel
theorem dX12_finish_175 : decode cX12_finish 175 = .ok (.bipush 41, 2) := by decide +kernel
theorem dX12_finish_177 : decode cX12_finish 177 = .ok (.invokevirtual 216, 3) := by decide +kernel
theorem dX12_finish_180 : decode cX12_finish 180 = .ok (.ifCond .ne 8, 3) := by decide +kernel
theorem dX12_finish_183 : decode cX12_finish 183 = .ok (.aload_n 0, 1) := by decide +kernel
theorem dX12_finish_184 : decode cX12_finish 184 = .ok (.invokevirtual 242, 3) := by decide +kernel
theorem dX12_finish_187 : decode cX12_finish 187 = .ok (.return_, 1) := by decide +kernel
theorem dX12_finish_188 : decode cX12_finish 188 = .ok (.aload_n 0, 1) := by decide +kernel
theorem dX12_finish_189 : decode cX12_finish 189 = .ok (.dup, 1) := by decide +kernel
theorem dX12_finish_190 : decode cX12_finish 190 = .ok (.getfield 190, 3) := by decide +kernel
theorem dX12_finish_193 : decode cX12_finish 193 = .ok (.iconst 1, 1) := by decide +kernel
theorem dX12_finish_194 : decode cX12_finish 194 = .ok (.iadd, 1) := by decide +kernel
theorem dX12_finish_195 : decode cX12_finish 195 = .ok (.putfield 190, 3) := by decide +kernel
theorem dX12_finish_198 : decode cX12_finish 198 = .ok (.aload_n 0, 1) := by decide +kernel
theorem dX12_finish_199 : decode cX12_finish 199 = .ok (.dup, 1) := by decide +kernel
theorem dX12_finish_200 : decode cX12_finish 200 = .ok (.getfield 199, 3) := by decide +kernel
theorem dX12_finish_203 : decode cX12_finish 203 = .ok (.iconst 1, 1) := by decide +kernel
theorem dX12_finish_204 : decode cX12_finish 204 = .ok (.isub, 1) := by decide +kernel
theorem dX12_finish_205 : decode cX12_finish 205 = .ok (.putfield 199, 3) := by decide +kernel
theorem dX12_finish_208 : decode cX12_finish 208 = .ok (.aload_n 0, 1) := by decide +kernel
theorem dX12_finish_209 : decode cX12_finish 209 = .ok (.iconst 0, 1) := by decide +kernel
theorem dX12_finish_210 : decode cX12_finish 210 = .ok (.invokevirtual 221, 3) := by decide +kernel
theorem dX12_finish_213 : decode cX12_finish 213 = .ok (.goto 68, 3) := by decide +kernel
theorem dX12_finish_216 : decode cX12_finish 216 = .ok (.aload_n 0, 1) := by decide +kernel
theorem dX12_finish_217 : decode cX12_finish 217 = .ok (.getfield 35, 3) := by decide +kernel
theorem dX12_finish_220 : decode cX12_finish 220 = .ok (.iload_n 1, 1) := by decide +kernel
theorem dX12_finish_221 : decode cX12_finish 221 = .ok (.iaload, 1) := by decide +kernel
theorem dX12_finish_222 : decode cX12_finish 222 = .ok (.iconst 3, 1) := by decide +kernel
theorem dX12_finish_223 : decode cX12_finish 223 = .ok (.if_icmp .ne 10, 3) := by decide +kernel
theorem dX12_finish_226 : decode cX12_finish 226 = .ok (.aload_n 0, 1) := by decide +kernel
theorem dX12_finish_227 : decode cX12_finish 227 = .ok (.invokevirtual 274, 3) := by decide +kernel
theorem dX12_finish_230 : decode cX12_finish 230 = .ok (.goto 51, 3) := by decide +kernel
theorem dX12_finish_233 : decode cX12_finish 233 = .ok (.aload_n 0, 1) := by decide +kernel
theorem dX12_finish_234 : decode cX12_finish 234 = .ok (.getfield 13, 3) := by decide +kernel
theorem dX12_finish_237 : decode cX12_finish 237 = .ok (.aload_n 0, 1) := by decide +kernel
theorem dX12_finish_238 : decode cX12_finish 238 = .ok (.getfield 190, 3) := by decide +kernel
theorem dX12_finish_241 : decode cX12_finish 241 = .ok (.iaload, 1) := by decide +kernel
theorem dX12_finish_242 : decode cX12_finish 242 = .ok (.ifCond .eq 10, 3) := by decide +kernel
theorem dX12_finish_245 : decode cX12_finish 245 = .ok (.aload_n 0, 1) := by decide +kernel
theorem dX12_finish_246 : decode cX12_finish 246 = .ok (.invokevirtual 277, 3) := by decide +kernel
theorem dX12_finish_249 : decode cX12_finish 249 = .ok (.goto 32, 3) := by decide +kernel
theorem dX12_finish_252 : decode cX12_finish 252 = .ok (.aload_n 0, 1) := by decide +kernel
theorem dX12_finish_253 : decode cX12_finish 253 = .ok (.getfield 35, 3) := by decide +kernel
theorem dX12_finish_256 : decode cX12_finish 256 = .ok (.iload_n 1, 1) := by decide +kernel
theorem dX12_finish_257 : decode cX12_finish 257 = .ok (.iaload, 1) := by decide +kernel
theorem dX12_finish_258 : decode cX12_finish 258 = .ok (.iconst 1, 1) := by decide +kernel
theorem dX12_finish_259 : decode cX12_finish 259 = .ok (.if_icmp .ne 17, 3) := by decide +kernel
theorem dX12_finish_262 : decode cX12_finish 262 = .ok (.aload_n 0, 1) := by decide +kernel
theorem dX12_finish_263 : decode cX12_finish 263 = .ok (.aload_n 0, 1) := by decide +kernel
theorem dX12_finish_264 : decode cX12_finish 264 = .ok (.getfield 271, 3) := by decide +kernel
theorem dX12_finish_267 : decode cX12_finish 267 = .ok (.aload_n 0, 1) := by decide +kernel
theorem dX12_finish_268 : decode cX12_finish 268 = .ok (.getfield 268, 3) := by decide +kernel
theorem dX12_finish_271 : decode cX12_finish 271 = .ok (.i2l, 1) := by decide +kernel
theorem dX12_finish_272 : decode cX12_finish 272 = .ok (.invokevirtual 212, 3) := by decide +kernel
theorem dX12_finish_275 : decode cX12_finish 275 = .ok (.pop, 1) := by decide +kernel
theorem dX12_finish_276 : decode cX12_finish 276 = .ok (.aload_n 0, 1) := by decide +kernel
theorem dX12_finish_277 : decode cX12_finish 277 = .ok (.iconst 1, 1) := by decide +kernel
theorem dX12_finish_278 : decode cX12_finish 278 = .ok (.putfield 280, 3) := by decide +kernel
theorem dX12_finish_281 : decode cX12_finish 281 = .ok (.return_, 1) := by decide +kernel
theorem dX12_parse_0 : decode cX12_parse 0 = .ok (.aload_n 0, 1) := by decide +kernel
theorem dX12_parse_1 : decode cX12_parse 1 = .ok (.aload_n 0, 1) := by decide +kernel
theorem dX12_parse_2 : decode cX12_parse 2 = .ok (.getfield 283, 3) := by decide +kernel
theorem dX12_parse_5 : decode cX12_parse 5 = .ok (.bipush 40, 2) := by decide +kernel
theorem dX12_parse_7 : decode cX12_parse 7 = .ok (.if_icmp .ne 7, 3) := by decide +kernel
theorem dX12_parse_10 : decode cX12_parse 10 = .ok (.iconst 1, 1) := by decide +kernel
theorem dX12_parse_11 : decode cX12_parse 11 = .ok (.goto 4, 3) := by decide +kernel
theorem dX12_parse_14 : decode cX12_parse 14 = .ok (.iconst 0, 1) := by decide +kernel
theorem dX12_parse_15 : decode cX12_parse 15 = .ok (.putfield 127, 3) := by decide +kernel
theorem dX12_parse_18 : decode cX12_parse 18 = .ok (.aload_n 0, 1) := by decide +kernel
theorem dX12_parse_19 : decode cX12_parse 19 = .ok (.getfield 127, 3) := by decide +kernel
theorem dX12_parse_22 : decode cX12_parse 22 = .ok (.ifCond .le 5, 3) := by decide +kernel
theorem dX12_parse_25 : decode cX12_parse 25 = .ok (.iconst 0, 1) := by decide +kernel
theorem dX12_parse_26 : decode cX12_parse 26 = .ok (.ireturn, 1) := by decide +kernel
theorem dX12_parse_27 : decode cX12_parse 27 = .ok (.aload_n 0, 1) := by decide +kernel
theorem dX12_parse_28 : decode cX12_parse 28 = .ok (.iconst 0, 1) := by decide +kernel
theorem dX12_parse_29 : decode cX12_parse 29 = .ok (.putfield 138, 3) := by decide +kernel
theorem dX12_parse_32 : decode cX12_parse 32 = .ok (.aload_n 0, 1) := by decide +kernel
theorem dX12_parse_33 : decode cX12_parse 33 = .ok (.invokevirtual 286, 3) := by decide +kernel
theorem dX12_parse_36 : decode cX12_parse 36 = .ok (.aload_n 0, 1) := by decide +kernel
theorem dX12_parse_37 : decode cX12_parse 37 = .ok (.iconst 0, 1) := by decide +kernel
theorem dX12_parse_38 : decode cX12_parse 38 = .ok (.putfield 131, 3) := by decide +kernel
theorem dX12_parse_41 : decode cX12_parse 41 = .ok (.aload_n 0, 1) := by decide +kernel
theorem dX12_parse_42 : decode cX12_parse 42 = .ok (.iconst 0, 1) := by decide +kernel
theorem dX12_parse_43 : decode cX12_parse 43 = .ok (.putfield 190, 3) := by decide +kernel
theorem dX12_parse_46 : decode cX12_parse 46 = .ok (.aload_n 0, 1) := by decide +kernel
theorem dX12_parse_47 : decode cX12_parse 47 = .ok (.bipush 90, 2) := by decide +kernel
theorem dX12_parse_49 : decode cX12_parse 49 = .ok (.aload_n 0, 1) := by decide +kernel
theorem dX12_parse_50 : decode cX12_parse 50 = .ok (.getfield 283, 3) := by decide +kernel
theorem dX12_parse_53 : decode cX12_parse 53 = .ok (.imul, 1) := by decide +kernel
theorem dX12_parse_54 : decode cX12_parse 54 = .ok (.putfield 193, 3) := by decide +kernel
theorem dX12_parse_57 : decode cX12_parse 57 = .ok (.aload_n 0, 1) := by decide +kernel
theorem dX12_parse_58 : decode cX12_parse 58 = .ok (.iconst 0, 1) := by decide +kernel
theorem dX12_parse_59 : decode cX12_parse 59 = .ok (.putfield 196, 3) := by decide +kernel
theorem dX12_parse_62 : decode cX12_parse 62 = .ok (.aload_n 0, 1) := by decide +kernel
theorem dX12_parse_63 : decode cX12_parse 63 = .ok (.iconst 0, 1) := by decide +kernel
theorem dX12_parse_64 : decode cX12_parse 64 = .ok (.putfield 199, 3) := by decide +kernel
theorem dX12_parse_67 : decode cX12_parse 67 = .ok (.aload_n 0, 1) := by decide +kernel
theorem dX12_parse_68 : decode cX12_parse 68 = .ok (.iconst 0, 1) := by decide +kernel
theorem dX12_parse_69 : decode cX12_parse 69 = .ok (.putfield 205, 3) := by decide +kernel
theorem dX12_parse_72 : decode cX12_parse 72 = .ok (.aload_n 0, 1) := by decide +kernel
theorem dX12_parse_73 : decode cX12_parse 73 = .ok (.iconst 0, 1) := by decide +kernel
theorem dX12_parse_74 : decode cX12_parse 74 = .ok (.putfield 280, 3) := by decide +kernel
theorem dX12_parse_77 : decode cX12_parse 77 = .ok (.iconst 0, 1) := by decide +kernel
theorem dX12_parse_78 : decode cX12_parse 78 = .ok (.istore_n 1, 1) := by decide +kernel
theorem dX12_parse_79 : decode cX12_parse 79 = .ok (.iload_n 1, 1) := by decide +kernel
theorem dX12_parse_80 : decode cX12_parse 80 = .ok (.sipush 400, 3) := by decide +kernel
theorem dX12_parse_83 : decode cX12_parse 83 = .ok (.if_icmp .ge 56, 3) := by decide +kernel
theorem dX12_parse_86 : decode cX12_parse 86 = .ok (.aload_n 0, 1) := by decide +kernel
theorem dX12_parse_87 : decode cX12_parse 87 = .ok (.getfield 138, 3) := by decide +kernel
theorem dX12_parse_90 : decode cX12_parse 90 = .ok (.ifCond .ne 49, 3) := by decide +kernel
theorem dX12_parse_93 : decode cX12_parse 93 = .ok (.aload_n 0, 1) := by decide +kernel
theorem dX12_parse_94 : decode cX12_parse 94 = .ok (.getfield 280, 3) := by decide +kernel
theorem dX12_parse_97 : decode cX12_parse 97 = .ok (.ifCond .ne 42, 3) := by decide +kernel
theorem dX12_parse_100 : decode cX12_parse 100 = .ok (.aload_n 0, 1) := by decide +kernel
theorem dX12_parse_101 : decode cX12_parse 101 = .ok (.getfield 199, 3) := by decide +kernel
theorem dX12_parse_104 : decode cX12_parse 104 = .ok (.ifCond .ne 11, 3) := by decide +kernel
theorem dX12_parse_107 : decode cX12_parse 107 = .ok (.aload_n 0, 1) := by decide +kernel
theorem dX12_parse_108 : decode cX12_parse 108 = .ok (.iconst 0, 1) := by decide +kernel
theorem dX12_parse_109 : decode cX12_parse 109 = .ok (.invokevirtual 225, 3) := by decide +kernel
theorem dX12_parse_112 : decode cX12_parse 112 = .ok (.goto 21, 3) := by decide +kernel
theorem dX12_parse_115 : decode cX12_parse 115 = .ok (.aload_n 0, 1) := by decide +kernel
theorem dX12_parse_116 : decode cX12_parse 116 = .ok (.getfield 208, 3) := by decide +kernel
theorem dX12_parse_119 : decode cX12_parse 119 = .ok (.ifCond .eq 10, 3) := by decide +kernel
theorem dX12_parse_122 : decode cX12_parse 122 = .ok (.aload_n 0, 1) := by decide +kernel
theorem dX12_parse_123 : decode cX12_parse 123 = .ok (.invokevirtual 289, 3) := by decide +kernel
theorem dX12_parse_126 : decode cX12_parse 126 = .ok (.goto 7, 3) := by decide +kernel
theorem dX12_parse_129 : decode cX12_parse 129 = .ok (.aload_n 0, 1) := by decide +kernel
theorem dX12_parse_130 : decode cX12_parse 130 = .ok (.invokevirtual 292, 3) := by decide +kernel
theorem dX12_parse_133 : decode cX12_parse 133 = .ok (.iinc 1 1, 3) := by decide +kernel
theorem dX12_parse_136 : decode cX12_parse 136 = .ok (.goto (-57), 3) := by decide +kernel
theorem dX12_parse_139 : decode cX12_parse 139 = .ok (.aload_n 0, 1) := by decide +kernel
theorem dX12_parse_140 : decode cX12_parse 140 = .ok (.getfield 138, 3) := by decide +kernel
theorem dX12_parse_143 : decode cX12_parse 143 = .ok (.ifCond .le 17, 3) := by decide +kernel
theorem dX12_parse_146 : decode cX12_parse 146 = .ok (.sipush (-1000), 3) := by decide +kernel
theorem dX12_parse_149 : decode cX12_parse 149 = .ok (.aload_n 0, 1) := by decide +kernel
theorem dX12_parse_150 : decode cX12_parse 150 = .ok (.getfield 138, 3) := by decide +kernel
theorem dX12_parse_153 : decode cX12_parse 153 = .ok (.imul, 1) := by decide +kernel
theorem dX12_parse_154 : decode cX12_parse 154 = .ok (.aload_n 0, 1) := by decide +kernel
theorem dX12_parse_155 : decode cX12_parse 155 = .ok (.getfield 141, 3) := by decide +kernel
theorem dX12_parse_158 : decode cX12_parse 158 = .ok (.isub, 1) := by decide +kernel
theorem dX12_parse_159 : decode cX12_parse 159 = .ok (.ireturn, 1) := by decide +kernel
theorem dX12_parse_160 : decode cX12_parse 160 = .ok (.aload_n 0, 1) := by decide +kernel
theorem dX12_parse_161 : decode cX12_parse 161 = .ok (.getfield 32, 3) := by decide +kernel
theorem dX12_parse_164 : decode cX12_parse 164 = .ok (.aload_n 0, 1) := by decide +kernel
theorem dX12_parse_165 : decode cX12_parse 165 = .ok (.getfield 283, 3) := by decide +kernel
theorem dX12_parse_168 : decode cX12_parse 168 = .ok (.aload_n 0, 1) := by decide +kernel
theorem dX12_parse_169 : decode cX12_parse 169 = .ok (.getfield 196, 3) := by decide +kernel
theorem dX12_parse_172 : decode cX12_parse 172 = .ok (.iastore, 1) := by decide +kernel
theorem dX12_parse_173 : decode cX12_parse 173 = .ok (.aload_n 0, 1) := by decide +kernel
theorem dX12_parse_174 : decode cX12_parse 174 = .ok (.dup, 1) := by decide +kernel
theorem dX12_parse_175 : decode cX12_parse 175 = .ok (.getfield 283, 3) := by decide +kernel
theorem dX12_parse_178 : decode cX12_parse 178 = .ok (.iconst 1, 1) := by decide +kernel
theorem dX12_parse_179 : decode cX12_parse 179 = .ok (.iadd, 1) := by decide +kernel
theorem dX12_parse_180 : decode cX12_parse 180 = .ok (.putfield 283, 3) := by decide +kernel
theorem dX12_parse_183 : decode cX12_parse 183 = .ok (.aload_n 0, 1) := by decide +kernel
theorem dX12_parse_184 : decode cX12_parse 184 = .ok (.getfield 283, 3) := by decide +kernel
theorem dX12_parse_187 : decode cX12_parse 187 = .ok (.iconst 1, 1) := by decide +kernel
theorem dX12_parse_188 : decode cX12_parse 188 = .ok (.isub, 1) := by decide +kernel
theorem dX12_parse_189 : decode cX12_parse 189 = .ok (.ireturn, 1) := by decide +kernel
theorem dX12_isClass_0 : decode cX12_isClass 0 = .ok (.iload_n 1, 1) := by decide +kernel
theorem dX12_isClass_1 : decode cX12_isClass 1 = .ok (.ifCond .lt 15, 3) := by decide +kernel
theorem dX12_isClass_4 : decode cX12_isClass 4 = .ok (.iload_n 1, 1) := by decide +kernel
theorem dX12_isClass_5 : decode cX12_isClass 5 = .ok (.aload_n 0, 1) := by decide +kernel
theorem dX12_isClass_6 : decode cX12_isClass 6 = .ok (.getfield 295, 3) := by decide +kernel
theorem dX12_isClass_9 : decode cX12_isClass 9 = .ok (.if_icmp .ge 7, 3) := by decide +kernel
theorem dX12_isClass_12 : decode cX12_isClass 12 = .ok (.iconst 1, 1) := by decide +kernel
theorem dX12_isClass_13 : decode cX12_isClass 13 = .ok (.goto 4, 3) := by decide +kernel
theorem dX12_isClass_16 : decode cX12_isClass 16 = .ok (.iconst 0, 1) := by decide +kernel
theorem dX12_isClass_17 : decode cX12_isClass 17 = .ok (.ireturn, 1) := by decide +kernel
theorem dX12_isType_0 : decode cX12_isType 0 = .ok (.iload_n 1, 1) := by decide +kernel
theorem dX12_isType_1 : decode cX12_isType 1 = .ok (.iconst 1, 1) := by decide +kernel
theorem dX12_isType_2 : decode cX12_isType 2 = .ok (.if_icmp .lt 8, 3) := by decide +kernel
theorem dX12_isType_5 : decode cX12_isType 5 = .ok (.iload_n 1, 1) := by decide +kernel
theorem dX12_isType_6 : decode cX12_isType 6 = .ok (.iconst 5, 1) := by decide +kernel
theorem dX12_isType_7 : decode cX12_isType 7 = .ok (.if_icmp .le 20, 3) := by decide +kernel
theorem dX12_isType_10 : decode cX12_isType 10 = .ok (.iload_n 1, 1) := by decide +kernel
theorem dX12_isType_11 : decode cX12_isType 11 = .ok (.bipush 8, 2) := by decide +kernel
theorem dX12_isType_13 : decode cX12_isType 13 = .ok (.if_icmp .lt 18, 3) := by decide +kernel
theorem dX12_isType_16 : decode cX12_isType 16 = .ok (.aload_n 0, 1) := by decide +kernel
theorem dX12_isType_17 : decode cX12_isType 17 = .ok (.iload_n 1, 1) := by decide +kernel
theorem dX12_isType_18 : decode cX12_isType 18 = .ok (.bipush 8, 2) := by decide +kernel
theorem dX12_isType_20 : decode cX12_isType 20 = .ok (.isub, 1) := by decide +kernel
theorem dX12_isType_21 : decode cX12_isType 21 = .ok (.invokevirtual 298, 3) := by decide +kernel
theorem dX12_isType_24 : decode cX12_isType 24 = .ok (.ifCond .eq 7, 3) := by decide +kernel
theorem dX12_isType_27 : decode cX12_isType 27 = .ok (.iconst 1, 1) := by decide +kernel
theorem dX12_isType_28 : decode cX12_isType 28 = .ok (.goto 4, 3) := by decide +kernel
theorem dX12_isType_31 : decode cX12_isType 31 = .ok (.iconst 0, 1) := by decide +kernel
theorem dX12_isType_32 : decode cX12_isType 32 = .ok (.ireturn, 1) := by decide +kernel
theorem dX12_isName_0 : decode cX12_isName 0 = .ok (.iload_n 0, 1) := by decide +kernel
theorem dX12_isName_1 : decode cX12_isName 1 = .ok (.iconst 1, 1) := by decide +kernel
theorem dX12_isName_2 : decode cX12_isName 2 = .ok (.if_icmp .lt 14, 3) := by decide +kernel
theorem dX12_isName_5 : decode cX12_isName 5 = .ok (.iload_n 0, 1) := by decide +kernel
theorem dX12_isName_6 : decode cX12_isName 6 = .ok (.ldc_w 301, 3) := by decide +kernel
theorem dX12_isName_9 : decode cX12_isName 9 = .ok (.if_icmp .gt 7, 3) := by decide +kernel
theorem dX12_isName_12 : decode cX12_isName 12 = .ok (.iconst 1, 1) := by decide +kernel
theorem dX12_isName_13 : decode cX12_isName 13 = .ok (.goto 4, 3) := by decide +kernel
theorem dX12_isName_16 : decode cX12_isName 16 = .ok (.iconst 0, 1) := by decide +kernel
theorem dX12_isName_17 : decode cX12_isName 17 = .ok (.ireturn, 1) := by decide +kernel
theorem dX12_type_0 : decode cX12_type 0 = .ok (.aload_n 0, 1) := by decide +kernel
theorem dX12_type_1 : decode cX12_type 1 = .ok (.iload_n 1, 1) := by decide +kernel
theorem dX12_type_2 : decode cX12_type 2 = .ok (.iconst (-1), 1) := by decide +kernel
theorem dX12_type_3 : decode cX12_type 3 = .ok (.if_icmp .eq 15, 3) := by decide +kernel
theorem dX12_type_6 : decode cX12_type 6 = .ok (.aload_n 0, 1) := by decide +kernel
theorem dX12_type_7 : decode cX12_type 7 = .ok (.iload_n 1, 1) := by decide +kernel
theorem dX12_type_8 : decode cX12_type 8 = .ok (.invokevirtual 298, 3) := by decide +kernel
theorem dX12_type_11 : decode cX12_type 11 = .ok (.ifCond .ne 7, 3) := by decide +kernel
theorem dX12_type_14 : decode cX12_type 14 = .ok (.iconst 1, 1) := by decide +kernel
theorem dX12_type_15 : decode cX12_type 15 = .ok (.goto 16, 3) := by decide +kernel
theorem dX12_type_18 : decode cX12_type 18 = .ok (.aload_n 0, 1) := by decide +kernel
theorem dX12_type_19 : decode cX12_type 19 = .ok (.getfield 295, 3) := by decide +kernel
theorem dX12_type_22 : decode cX12_type 22 = .ok (.iconst 5, 1) := by decide +kernel
theorem dX12_type_23 : decode cX12_type 23 = .ok (.if_icmp .ne 7, 3) := by decide +kernel
theorem dX12_type_26 : decode cX12_type 26 = .ok (.iconst 2, 1) := by decide +kernel
theorem dX12_type_27 : decode cX12_type 27 = .ok (.goto 4, 3) := by decide +kernel
theorem dX12_type_30 : decode cX12_type 30 = .ok (.iconst 0, 1) := by decide +kernel
theorem dX12_type_31 : decode cX12_type 31 = .ok (.putfield 127, 3) := by decide +kernel
theorem dX12_type_34 : decode cX12_type 34 = .ok (.aload_n 0, 1) := by decide +kernel
theorem dX12_type_35 : decode cX12_type 35 = .ok (.getfield 127, 3) := by decide +kernel
theorem dX12_type_38 : decode cX12_type 38 = .ok (.ifCond .le 5, 3) := by decide +kernel
theorem dX12_type_41 : decode cX12_type 41 = .ok (.iconst 0, 1) := by decide +kernel
theorem dX12_type_42 : decode cX12_type 42 = .ok (.ireturn, 1) := by decide +kernel
theorem dX12_type_43 : decode cX12_type 43 = .ok (.aload_n 0, 1) := by decide +kernel
theorem dX12_type_44 : decode cX12_type 44 = .ok (.getfield 72, 3) := by decide +kernel
theorem dX12_type_47 : decode cX12_type 47 = .ok (.aload_n 0, 1) := by decide +kernel
theorem dX12_type_48 : decode cX12_type 48 = .ok (.getfield 295, 3) := by decide +kernel
theorem dX12_type_51 : decode cX12_type 51 = .ok (.iload_n 1, 1) := by decide +kernel
theorem dX12_type_52 : decode cX12_type 52 = .ok (.iastore, 1) := by decide +kernel
theorem dX12_type_53 : decode cX12_type 53 = .ok (.aload_n 0, 1) := by decide +kernel
theorem dX12_type_54 : decode cX12_type 54 = .ok (.dup, 1) := by decide +kernel
theorem dX12_type_55 : decode cX12_type 55 = .ok (.getfield 295, 3) := by decide +kernel
theorem dX12_type_58 : decode cX12_type 58 = .ok (.iconst 1, 1) := by decide +kernel
theorem dX12_type_59 : decode cX12_type 59 = .ok (.iadd, 1) := by decide +kernel
theorem dX12_type_60 : decode cX12_type 60 = .ok (.putfield 295, 3) := by decide +kernel
theorem dX12_type_63 : decode cX12_type 63 = .ok (.aload_n 0, 1) := by decide +kernel
theorem dX12_type_64 : decode cX12_type 64 = .ok (.getfield 295, 3) := by decide +kernel
theorem dX12_type_67 : decode cX12_type 67 = .ok (.iconst 1, 1) := by decide +kernel
theorem dX12_type_68 : decode cX12_type 68 = .ok (.isub, 1) := by decide +kernel
theorem dX12_type_69 : decode cX12_type 69 = .ok (.ireturn, 1) := by decide +kernel
theorem dX12_field_0 : decode cX12_field 0 = .ok (.aload_n 0, 1) := by decide +kernel
theorem dX12_field_1 : decode cX12_field 1 = .ok (.aload_n 0, 1) := by decide +kernel
theorem dX12_field_2 : decode cX12_field 2 = .ok (.iload_n 1, 1) := by decide +kernel
theorem dX12_field_3 : decode cX12_field 3 = .ok (.invokevirtual 298, 3) := by decide +kernel
theorem dX12_field_6 : decode cX12_field 6 = .ok (.ifCond .eq 18, 3) := by decide +kernel
theorem dX12_field_9 : decode cX12_field 9 = .ok (.iload_n 2, 1) := by decide +kernel
theorem dX12_field_10 : decode cX12_field 10 = .ok (.invokestatic 302, 3) := by decide +kernel
theorem dX12_field_13 : decode cX12_field 13 = .ok (.ifCond .eq 11, 3) := by decide +kernel
theorem dX12_field_16 : decode cX12_field 16 = .ok (.aload_n 0, 1) := by decide +kernel
theorem dX12_field_17 : decode cX12_field 17 = .ok (.iload_n 3, 1) := by decide +kernel
theorem dX12_field_18 : decode cX12_field 18 = .ok (.invokevirtual 305, 3) := by decide +kernel
theorem dX12_field_21 : decode cX12_field 21 = .ok (.ifCond .ne 7, 3) := by decide +kernel
theorem dX12_field_24 : decode cX12_field 24 = .ok (.iconst 1, 1) := by decide +kernel
theorem dX12_field_25 : decode cX12_field 25 = .ok (.goto 4, 3) := by decide +kernel
theorem dX12_field_28 : decode cX12_field 28 = .ok (.iconst 0, 1) := by decide +kernel
theorem dX12_field_29 : decode cX12_field 29 = .ok (.putfield 127, 3) := by decide +kernel
theorem dX12_field_32 : decode cX12_field 32 = .ok (.aload_n 0, 1) := by decide +kernel
theorem dX12_field_33 : decode cX12_field 33 = .ok (.getfield 127, 3) := by decide +kernel
theorem dX12_field_36 : decode cX12_field 36 = .ok (.ifCond .le 5, 3) := by decide +kernel
theorem dX12_field_39 : decode cX12_field 39 = .ok (.iconst 0, 1) := by decide +kernel
theorem dX12_field_40 : decode cX12_field 40 = .ok (.ireturn, 1) := by decide +kernel
theorem dX12_field_41 : decode cX12_field 41 = .ok (.iconst 0, 1) := by decide +kernel
theorem dX12_field_42 : decode cX12_field 42 = .ok (.istore 4, 2) := by decide +kernel
theorem dX12_field_44 : decode cX12_field 44 = .ok (.bipush 6, 2) := by decide +kernel
theorem dX12_field_46 : decode cX12_field 46 = .ok (.iload_n 1, 1) := by decide +kernel
theorem dX12_field_47 : decode cX12_field 47 = .ok (.imul, 1) := by decide +kernel
theorem dX12_field_48 : decode cX12_field 48 = .ok (.istore 5, 2) := by decide +kernel
theorem dX12_field_50 : decode cX12_field 50 = .ok (.iload 5, 2) := by decide +kernel
theorem dX12_field_52 : decode cX12_field 52 = .ok (.bipush 6, 2) := by decide +kernel
theorem dX12_field_54 : decode cX12_field 54 = .ok (.iload_n 1, 1) := by decide +kernel
theorem dX12_field_55 : decode cX12_field 55 = .ok (.imul, 1) := by decide +kernel
theorem dX12_field_56 : decode cX12_field 56 = .ok (.aload_n 0, 1) := by decide +kernel
theorem dX12_field_57 : decode cX12_field 57 = .ok (.getfield 75, 3) := by decide +kernel
theorem dX12_field_60 : decode cX12_field 60 = .ok (.iload_n 1, 1) := by decide +kernel
theorem dX12_field_61 : decode cX12_field 61 = .ok (.iaload, 1) := by decide +kernel
theorem dX12_field_62 : decode cX12_field 62 = .ok (.iadd, 1) := by decide +kernel
theorem dX12_field_63 : decode cX12_field 63 = .ok (.if_icmp .ge 32, 3) := by decide +kernel
theorem dX12_field_66 : decode cX12_field 66 = .ok (.iload 4, 2) := by decide +kernel
theorem dX12_field_68 : decode cX12_field 68 = .ok (.ifCond .ne 14, 3) := by decide +kernel
theorem dX12_field_71 : decode cX12_field 71 = .ok (.aload_n 0, 1) := by decide +kernel
theorem dX12_field_72 : decode cX12_field 72 = .ok (.getfield 78, 3) := by decide +kernel
theorem dX12_field_75 : decode cX12_field 75 = .ok (.iload 5, 2) := by decide +kernel
theorem dX12_field_77 : decode cX12_field 77 = .ok (.iaload, 1) := by decide +kernel
theorem dX12_field_78 : decode cX12_field 78 = .ok (.iload_n 2, 1) := by decide +kernel
theorem dX12_field_79 : decode cX12_field 79 = .ok (.if_icmp .ne 7, 3) := by decide +kernel
theorem dX12_field_82 : decode cX12_field 82 = .ok (.iconst 1, 1) := by decide +kernel
theorem dX12_field_83 : decode cX12_field 83 = .ok (.goto 4, 3) := by decide +kernel
theorem dX12_field_86 : decode cX12_field 86 = .ok (.iconst 0, 1) := by decide +kernel
theorem dX12_field_87 : decode cX12_field 87 = .ok (.istore 4, 2) := by decide +kernel
theorem dX12_field_89 : decode cX12_field 89 = .ok (.iinc 5 1, 3) := by decide +kernel
theorem dX12_field_92 : decode cX12_field 92 = .ok (.goto (-42), 3) := by decide +kernel
theorem dX12_field_95 : decode cX12_field 95 = .ok (.aload_n 0, 1) := by decide +kernel
theorem dX12_field_96 : decode cX12_field 96 = .ok (.aload_n 0, 1) := by decide +kernel
theorem dX12_field_97 : decode cX12_field 97 = .ok (.getfield 75, 3) := by decide +kernel
theorem dX12_field_100 : decode cX12_field 100 = .ok (.iload_n 1, 1) := by decide +kernel
theorem dX12_field_101 : decode cX12_field 101 = .ok (.iaload, 1) := by decide +kernel
theorem dX12_field_102 : decode cX12_field 102 = .ok (.bipush 6, 2) := by decide +kernel
theorem dX12_field_104 : decode cX12_field 104 = .ok (.if_icmp .eq 15, 3) := by decide +kernel
theorem dX12_field_107 : decode cX12_field 107 = .ok (.iload 4, 2) := by decide +kernel
theorem dX12_field_109 : decode cX12_field 109 = .ok (.ifCond .ne 10, 3) := by decide +kernel
theorem dX12_field_112 : decode cX12_field 112 = .ok (.aload_n 0, 1) := by decide +kernel
theorem dX12_field_113 : decode cX12_field 113 = .ok (.getfield 308, 3) := by decide +kernel
theorem dX12_field_116 : decode cX12_field 116 = .ok (.ifCond .le 7, 3) := by decide +kernel
theorem dX12_field_119 : decode cX12_field 119 = .ok (.iconst 2, 1) := by decide +kernel
theorem dX12_field_120 : decode cX12_field 120 = .ok (.goto 4, 3) := by decide +kernel
theorem dX12_field_123 : decode cX12_field 123 = .ok (.iconst 0, 1) := by decide +kernel
theorem dX12_field_124 : decode cX12_field 124 = .ok (.putfield 127, 3) := by decide +kernel
theorem dX12_field_127 : decode cX12_field 127 = .ok (.aload_n 0, 1) := by decide +kernel
theorem dX12_field_128 : decode cX12_field 128 = .ok (.getfield 127, 3) := by decide +kernel
theorem dX12_field_131 : decode cX12_field 131 = .ok (.ifCond .le 5, 3) := by decide +kernel
theorem dX12_field_134 : decode cX12_field 134 = .ok (.iconst 0, 1) := by decide +kernel
theorem dX12_field_135 : decode cX12_field 135 = .ok (.ireturn, 1) := by decide +kernel
theorem dX12_field_136 : decode cX12_field 136 = .ok (.aload_n 0, 1) := by decide +kernel
theorem dX12_field_137 : decode cX12_field 137 = .ok (.getfield 78, 3) := by decide +kernel
theorem dX12_field_140 : decode cX12_field 140 = .ok (.bipush 6, 2) := by decide +kernel
theorem dX12_field_142 : decode cX12_field 142 = .ok (.iload_n 1, 1) := by decide +kernel
theorem dX12_field_143 : decode cX12_field 143 = .ok (.imul, 1) := by decide +kernel
theorem dX12_field_144 : decode cX12_field 144 = .ok (.aload_n 0, 1) := by decide +kernel
theorem dX12_field_145 : decode cX12_field 145 = .ok (.getfield 75, 3) := by decide +kernel
theorem dX12_field_148 : decode cX12_field 148 = .ok (.iload_n 1, 1) := by decide +kernel
theorem dX12_field_149 : decode cX12_field 149 = .ok (.iaload, 1) := by decide +kernel
theorem dX12_field_150 : decode cX12_field 150 = .ok (.iadd, 1) := by decide +kernel
theorem dX12_field_151 : decode cX12_field 151 = .ok (.iload_n 2, 1) := by decide +kernel
theorem dX12_field_152 : decode cX12_field 152 = .ok (.iastore, 1) := by decide +kernel
theorem dX12_field_153 : decode cX12_field 153 = .ok (.aload_n 0, 1) := by decide +kernel
theorem dX12_field_154 : decode cX12_field 154 = .ok (.getfield 81, 3) := by decide +kernel
theorem dX12_field_157 : decode cX12_field 157 = .ok (.bipush 6, 2) := by decide +kernel
theorem dX12_field_159 : decode cX12_field 159 = .ok (.iload_n 1, 1) := by decide +kernel
theorem dX12_field_160 : decode cX12_field 160 = .ok (.imul, 1) := by decide +kernel
theorem dX12_field_161 : decode cX12_field 161 = .ok (.aload_n 0, 1) := by decide +kernel
theorem dX12_field_162 : decode cX12_field 162 = .ok (.getfield 75, 3) := by decide +kernel
theorem dX12_field_165 : decode cX12_field 165 = .ok (.iload_n 1, 1) := by decide +kernel
theorem dX12_field_166 : decode cX12_field 166 = .ok (.iaload, 1) := by decide +kernel
theorem dX12_field_167 : decode cX12_field 167 = .ok (.iadd, 1) := by decide +kernel
theorem dX12_field_168 : decode cX12_field 168 = .ok (.iload_n 3, 1) := by decide +kernel
theorem dX12_field_169 : decode cX12_field 169 = .ok (.iastore, 1) := by decide +kernel
theorem dX12_field_170 : decode cX12_field 170 = .ok (.aload_n 0, 1) := by decide +kernel
theorem dX12_field_171 : decode cX12_field 171 = .ok (.getfield 75, 3) := by decide +kernel
theorem dX12_field_174 : decode cX12_field 174 = .ok (.iload_n 1, 1) := by decide +kernel
theorem dX12_field_175 : decode cX12_field 175 = .ok (.dup2, 1) := by decide +kernel
theorem dX12_field_176 : decode cX12_field 176 = .ok (.iaload, 1) := by decide +kernel
theorem dX12_field_177 : decode cX12_field 177 = .ok (.iconst 1, 1) := by decide +kernel
theorem dX12_field_178 : decode cX12_field 178 = .ok (.iadd, 1) := by decide +kernel
theorem dX12_field_179 : decode cX12_field 179 = .ok (.iastore, 1) := by decide +kernel
theorem dX12_field_180 : decode cX12_field 180 = .ok (.aload_n 0, 1) := by decide +kernel
theorem dX12_field_181 : decode cX12_field 181 = .ok (.getfield 75, 3) := by decide +kernel
theorem dX12_field_184 : decode cX12_field 184 = .ok (.iload_n 1, 1) := by decide +kernel
theorem dX12_field_185 : decode cX12_field 185 = .ok (.iaload, 1) := by decide +kernel
theorem dX12_field_186 : decode cX12_field 186 = .ok (.ireturn, 1) := by decide +kernel
theorem dX12_method_0 : decode cX12_method 0 = .ok (.iload_n 3, 1) := by decide +kernel
theorem dX12_method_1 : decode cX12_method 1 = .ok (.ifCond .ne 11, 3) := by decide +kernel
theorem dX12_method_4 : decode cX12_method 4 = .ok (.iload 4, 2) := by decide +kernel
theorem dX12_method_6 : decode cX12_method 6 = .ok (.ifCond .ne 32, 3) := by decide +kernel
theorem dX12_method_9 : decode cX12_method 9 = .ok (.goto 11, 3) := by decide +kernel
theorem dX12_method_12 : decode cX12_method 12 = .ok (.aload_n 0, 1) := by decide +kernel
theorem dX12_method_13 : decode cX12_method 13 = .ok (.iload_n 3, 1) := by decide +kernel
theorem dX12_method_14 : decode cX12_method 14 = .ok (.invokevirtual 305, 3) := by decide +kernel
theorem dX12_method_17 : decode cX12_method 17 = .ok (.ifCond .eq 21, 3) := by decide +kernel
theorem dX12_method_20 : decode cX12_method 20 = .ok (.iload 4, 2) := by decide +kernel
theorem dX12_method_22 : decode cX12_method 22 = .ok (.ifCond .eq 12, 3) := by decide +kernel
theorem dX12_method_25 : decode cX12_method 25 = .ok (.aload_n 0, 1) := by decide +kernel
theorem dX12_method_26 : decode cX12_method 26 = .ok (.iload 4, 2) := by decide +kernel
theorem dX12_method_28 : decode cX12_method 28 = .ok (.invokevirtual 305, 3) := by decide +kernel
theorem dX12_method_31 : decode cX12_method 31 = .ok (.ifCond .eq 7, 3) := by decide +kernel
theorem dX12_method_34 : decode cX12_method 34 = .ok (.iconst 1, 1) := by decide +kernel
theorem dX12_method_35 : decode cX12_method 35 = .ok (.goto 4, 3) := by decide +kernel
theorem dX12_method_38 : decode cX12_method 38 = .ok (.iconst 0, 1) := by decide +kernel
theorem dX12_method_39 : decode cX12_method 39 = .ok (.istore 7, 2) := by decide +kernel
theorem dX12_method_41 : decode cX12_method 41 = .ok (.aload_n 0, 1) := by decide +kernel
theorem dX12_method_42 : decode cX12_method 42 = .ok (.aload_n 0, 1) := by decide +kernel
theorem dX12_method_43 : decode cX12_method 43 = .ok (.iload_n 1, 1) := by decide +kernel
theorem dX12_method_44 : decode cX12_method 44 = .ok (.invokevirtual 298, 3) := by decide +kernel
theorem dX12_method_47 : decode cX12_method 47 = .ok (.ifCond .eq 26, 3) := by decide +kernel
theorem dX12_method_50 : decode cX12_method 50 = .ok (.iload_n 2, 1) := by decide +kernel
theorem dX12_method_51 : decode cX12_method 51 = .ok (.invokestatic 302, 3) := by decide +kernel
theorem dX12_method_54 : decode cX12_method 54 = .ok (.ifCond .eq 19, 3) := by decide +kernel
theorem dX12_method_57 : decode cX12_method 57 = .ok (.iload 5, 2) := by decide +kernel
theorem dX12_method_59 : decode cX12_method 59 = .ok (.ifCond .lt 14, 3) := by decide +kernel
theorem dX12_method_62 : decode cX12_method 62 = .ok (.iload 5, 2) := by decide +kernel
theorem dX12_method_64 : decode cX12_method 64 = .ok (.iconst 5, 1) := by decide +kernel
theorem dX12_method_65 : decode cX12_method 65 = .ok (.if_icmp .gt 8, 3) := by decide +kernel
theorem dX12_method_68 : decode cX12_method 68 = .ok (.iload 7, 2) := by decide +kernel
theorem dX12_method_70 : decode cX12_method 70 = .ok (.ifCond .ne 7, 3) := by decide +kernel
theorem dX12_method_73 : decode cX12_method 73 = .ok (.iconst 1, 1) := by decide +kernel
theorem dX12_method_74 : decode cX12_method 74 = .ok (.goto 19, 3) := by decide +kernel
theorem dX12_method_77 : decode cX12_method 77 = .ok (.aload_n 0, 1) := by decide +kernel
theorem dX12_method_78 : decode cX12_method 78 = .ok (.getfield 84, 3) := by decide +kernel
theorem dX12_method_81 : decode cX12_method 81 = .ok (.iload_n 1, 1) := by decide +kernel
theorem dX12_method_82 : decode cX12_method 82 = .ok (.iaload, 1) := by decide +kernel
theorem dX12_method_83 : decode cX12_method 83 = .ok (.bipush 6, 2) := by decide +kernel
theorem dX12_method_85 : decode cX12_method 85 = .ok (.if_icmp .ne 7, 3) := by decide +kernel
theorem dX12_method_88 : decode cX12_method 88 = .ok (.iconst 2, 1) := by decide +kernel
theorem dX12_method_89 : decode cX12_method 89 = .ok (.goto 4, 3) := by decide +kernel
theorem dX12_method_92 : decode cX12_method 92 = .ok (.iconst 0, 1) := by decide +kernel
theorem dX12_method_93 : decode cX12_method 93 = .ok (.putfield 127, 3) := by decide +kernel
theorem dX12_method_96 : decode cX12_method 96 = .ok (.aload_n 0, 1) := by decide +kernel
theorem dX12_method_97 : decode cX12_method 97 = .ok (.getfield 127, 3) := by decide +kernel
theorem dX12_method_100 : decode cX12_method 100 = .ok (.ifCond .le 5, 3) := by decide +kernel
theorem dX12_method_103 : decode cX12_method 103 = .ok (.iconst 0, 1) := by decide +kernel
theorem dX12_method_104 : decode cX12_method 104 = .ok (.ireturn, 1) := by decide +kernel
theorem dX12_method_105 : decode cX12_method 105 = .ok (.bipush 6, 2) := by decide +kernel
theorem dX12_method_107 : decode cX12_method 107 = .ok (.iload_n 1, 1) := by decide +kernel
theorem dX12_method_108 : decode cX12_method 108 = .ok (.imul, 1) := by decide +kernel
theorem dX12_method_109 : decode cX12_method 109 = .ok (.aload_n 0, 1) := by decide +kernel
theorem dX12_method_110 : decode cX12_method 110 = .ok (.getfield 84, 3) := by decide +kernel
theorem dX12_method_113 : decode cX12_method 113 = .ok (.iload_n 1, 1) := by decide +kernel
theorem dX12_method_114 : decode cX12_method 114 = .ok (.iaload, 1) := by decide +kernel
theorem dX12_method_115 : decode cX12_method 115 = .ok (.iadd, 1) := by decide +kernel
theorem dX12_method_116 : decode cX12_method 116 = .ok (.istore 8, 2) := by decide +kernel
theorem dX12_method_118 : decode cX12_method 118 = .ok (.aload_n 0, 1) := by decide +kernel
theorem dX12_method_119 : decode cX12_method 119 = .ok (.getfield 87, 3) := by decide +kernel
theorem dX12_method_122 : decode cX12_method 122 = .ok (.iload 8, 2) := by decide +kernel
theorem dX12_method_124 : decode cX12_method 124 = .ok (.iload_n 2, 1) := by decide +kernel
theorem dX12_method_125 : decode cX12_method 125 = .ok (.iastore, 1) := by decide +kernel
theorem dX12_method_126 : decode cX12_method 126 = .ok (.aload_n 0, 1) := by decide +kernel
theorem dX12_method_127 : decode cX12_method 127 = .ok (.getfield 90, 3) := by decide +kernel
theorem dX12_method_130 : decode cX12_method 130 = .ok (.iload 8, 2) := by decide +kernel
theorem dX12_method_132 : decode cX12_method 132 = .ok (.iload_n 3, 1) := by decide +kernel
theorem dX12_method_133 : decode cX12_method 133 = .ok (.iastore, 1) := by decide +kernel
theorem dX12_method_134 : decode cX12_method 134 = .ok (.aload_n 0, 1) := by decide +kernel
theorem dX12_method_135 : decode cX12_method 135 = .ok (.getfield 93, 3) := by decide +kernel
theorem dX12_method_138 : decode cX12_method 138 = .ok (.iload 8, 2) := by decide +kernel
theorem dX12_method_140 : decode cX12_method 140 = .ok (.iload 4, 2) := by decide +kernel
theorem dX12_method_142 : decode cX12_method 142 = .ok (.iastore, 1) := by decide +kernel
theorem dX12_method_143 : decode cX12_method 143 = .ok (.aload_n 0, 1) := by decide +kernel
theorem dX12_method_144 : decode cX12_method 144 = .ok (.getfield 96, 3) := by decide +kernel
theorem dX12_method_147 : decode cX12_method 147 = .ok (.iload 8, 2) := by decide +kernel
theorem dX12_method_149 : decode cX12_method 149 = .ok (.iload 5, 2) := by decide +kernel
theorem dX12_method_151 : decode cX12_method 151 = .ok (.iastore, 1) := by decide +kernel
theorem dX12_method_152 : decode cX12_method 152 = .ok (.aload_n 0, 1) := by decide +kernel
theorem dX12_method_153 : decode cX12_method 153 = .ok (.getfield 99, 3) := by decide +kernel
theorem dX12_method_156 : decode cX12_method 156 = .ok (.iload 8, 2) := by decide +kernel
theorem dX12_method_158 : decode cX12_method 158 = .ok (.iload 6, 2) := by decide +kernel
theorem dX12_method_160 : decode cX12_method 160 = .ok (.iastore, 1) := by decide +kernel
theorem dX12_method_161 : decode cX12_method 161 = .ok (.aload_n 0, 1) := by decide +kernel
theorem dX12_method_162 : decode cX12_method 162 = .ok (.getfield 84, 3) := by decide +kernel
theorem dX12_method_165 : decode cX12_method 165 = .ok (.iload_n 1, 1) := by decide +kernel
theorem dX12_method_166 : decode cX12_method 166 = .ok (.dup2, 1) := by decide +kernel
theorem dX12_method_167 : decode cX12_method 167 = .ok (.iaload, 1) := by decide +kernel
theorem dX12_method_168 : decode cX12_method 168 = .ok (.iconst 1, 1) := by decide +kernel
theorem dX12_method_169 : decode cX12_method 169 = .ok (.iadd, 1) := by decide +kernel
theorem dX12_method_170 : decode cX12_method 170 = .ok (.iastore, 1) := by decide +kernel
theorem dX12_method_171 : decode cX12_method 171 = .ok (.aload_n 0, 1) := by decide +kernel
theorem dX12_method_172 : decode cX12_method 172 = .ok (.getfield 84, 3) := by decide +kernel
theorem dX12_method_175 : decode cX12_method 175 = .ok (.iload_n 1, 1) := by decide +kernel
theorem dX12_method_176 : decode cX12_method 176 = .ok (.iaload, 1) := by decide +kernel
theorem dX12_method_177 : decode cX12_method 177 = .ok (.ireturn, 1) := by decide +kernel
theorem dX12_make_0 : decode cX12_make 0 = .ok (.aload_n 0, 1) := by decide +kernel
theorem dX12_make_1 : decode cX12_make 1 = .ok (.aload_n 0, 1) := by decide +kernel
theorem dX12_make_2 : decode cX12_make 2 = .ok (.iload_n 1, 1) := by decide +kernel
theorem dX12_make_3 : decode cX12_make 3 = .ok (.invokevirtual 298, 3) := by decide +kernel
theorem dX12_make_6 : decode cX12_make 6 = .ok (.ifCond .ne 7, 3) := by decide +kernel
theorem dX12_make_9 : decode cX12_make 9 = .ok (.iconst 1, 1) := by decide +kernel
theorem dX12_make_10 : decode cX12_make 10 = .ok (.goto 17, 3) := by decide +kernel
theorem dX12_make_13 : decode cX12_make 13 = .ok (.aload_n 0, 1) := by decide +kernel
theorem dX12_make_14 : decode cX12_make 14 = .ok (.getfield 308, 3) := by decide +kernel
theorem dX12_make_17 : decode cX12_make 17 = .ok (.bipush 30, 2) := by decide +kernel
theorem dX12_make_19 : decode cX12_make 19 = .ok (.if_icmp .ne 7, 3) := by decide +kernel
theorem dX12_make_22 : decode cX12_make 22 = .ok (.iconst 2, 1) := by decide +kernel
theorem dX12_make_23 : decode cX12_make 23 = .ok (.goto 4, 3) := by decide +kernel
theorem dX12_make_26 : decode cX12_make 26 = .ok (.iconst 0, 1) := by decide +kernel
theorem dX12_make_27 : decode cX12_make 27 = .ok (.putfield 127, 3) := by decide +kernel
theorem dX12_make_30 : decode cX12_make 30 = .ok (.aload_n 0, 1) := by decide +kernel
theorem dX12_make_31 : decode cX12_make 31 = .ok (.getfield 127, 3) := by decide +kernel
theorem dX12_make_34 : decode cX12_make 34 = .ok (.ifCond .le 5, 3) := by decide +kernel
theorem dX12_make_37 : decode cX12_make 37 = .ok (.iconst 0, 1) := by decide +kernel
theorem dX12_make_38 : decode cX12_make 38 = .ok (.ireturn, 1) := by decide +kernel
theorem dX12_make_39 : decode cX12_make 39 = .ok (.aload_n 0, 1) := by decide +kernel
theorem dX12_make_40 : decode cX12_make 40 = .ok (.getfield 105, 3) := by decide +kernel
theorem dX12_make_43 : decode cX12_make 43 = .ok (.aload_n 0, 1) := by decide +kernel
theorem dX12_make_44 : decode cX12_make 44 = .ok (.getfield 308, 3) := by decide +kernel
theorem dX12_make_47 : decode cX12_make 47 = .ok (.iload_n 1, 1) := by decide +kernel
theorem dX12_make_48 : decode cX12_make 48 = .ok (.iastore, 1) := by decide +kernel
theorem dX12_make_49 : decode cX12_make 49 = .ok (.aload_n 0, 1) := by decide +kernel
theorem dX12_make_50 : decode cX12_make 50 = .ok (.dup, 1) := by decide +kernel
theorem dX12_make_51 : decode cX12_make 51 = .ok (.getfield 308, 3) := by decide +kernel
theorem dX12_make_54 : decode cX12_make 54 = .ok (.iconst 1, 1) := by decide +kernel
theorem dX12_make_55 : decode cX12_make 55 = .ok (.iadd, 1) := by decide +kernel
theorem dX12_make_56 : decode cX12_make 56 = .ok (.putfield 308, 3) := by decide +kernel
theorem dX12_make_59 : decode cX12_make 59 = .ok (.aload_n 0, 1) := by decide +kernel
theorem dX12_make_60 : decode cX12_make 60 = .ok (.getfield 308, 3) := by decide +kernel
theorem dX12_make_63 : decode cX12_make 63 = .ok (.iconst 1, 1) := by decide +kernel
theorem dX12_make_64 : decode cX12_make 64 = .ok (.isub, 1) := by decide +kernel
theorem dX12_make_65 : decode cX12_make 65 = .ok (.ireturn, 1) := by decide +kernel
theorem dX12_converter_0 : decode cX12_converter 0 = .ok (.iload_n 1, 1) := by decide +kernel
theorem dX12_converter_1 : decode cX12_converter 1 = .ok (.iconst 1, 1) := by decide +kernel
theorem dX12_converter_2 : decode cX12_converter 2 = .ok (.if_icmp .lt 8, 3) := by decide +kernel
theorem dX12_converter_5 : decode cX12_converter 5 = .ok (.iload_n 1, 1) := by decide +kernel
theorem dX12_converter_6 : decode cX12_converter 6 = .ok (.iconst 5, 1) := by decide +kernel
theorem dX12_converter_7 : decode cX12_converter 7 = .ok (.if_icmp .le 15, 3) := by decide +kernel
theorem dX12_converter_10 : decode cX12_converter 10 = .ok (.iload_n 1, 1) := by decide +kernel
theorem dX12_converter_11 : decode cX12_converter 11 = .ok (.bipush 8, 2) := by decide +kernel
theorem dX12_converter_13 : decode cX12_converter 13 = .ok (.if_icmp .lt 28, 3) := by decide +kernel
theorem dX12_converter_16 : decode cX12_converter 16 = .ok (.iload_n 1, 1) := by decide +kernel
theorem dX12_converter_17 : decode cX12_converter 17 = .ok (.bipush 12, 2) := by decide +kernel
theorem dX12_converter_19 : decode cX12_converter 19 = .ok (.if_icmp .gt 22, 3) := by decide +kernel
theorem dX12_converter_22 : decode cX12_converter 22 = .ok (.iload_n 2, 1) := by decide +kernel
theorem dX12_converter_23 : decode cX12_converter 23 = .ok (.iconst 1, 1) := by decide +kernel
theorem dX12_converter_24 : decode cX12_converter 24 = .ok (.if_icmp .lt 17, 3) := by decide +kernel
theorem dX12_converter_27 : decode cX12_converter 27 = .ok (.iload_n 2, 1) := by decide +kernel
theorem dX12_converter_28 : decode cX12_converter 28 = .ok (.iconst 4, 1) := by decide +kernel
theorem dX12_converter_29 : decode cX12_converter 29 = .ok (.if_icmp .gt 12, 3) := by decide +kernel
theorem dX12_converter_32 : decode cX12_converter 32 = .ok (.iload_n 1, 1) := by decide +kernel
theorem dX12_converter_33 : decode cX12_converter 33 = .ok (.iload_n 2, 1) := by decide +kernel
theorem dX12_converter_34 : decode cX12_converter 34 = .ok (.if_icmp .eq 7, 3) := by decide +kernel
theorem dX12_converter_37 : decode cX12_converter 37 = .ok (.iconst 1, 1) := by decide +kernel
theorem dX12_converter_38 : decode cX12_converter 38 = .ok (.goto 4, 3) := by decide +kernel
theorem dX12_converter_41 : decode cX12_converter 41 = .ok (.iconst 0, 1) := by decide +kernel
theorem dX12_converter_42 : decode cX12_converter 42 = .ok (.istore 4, 2) := by decide +kernel
theorem dX12_converter_44 : decode cX12_converter 44 = .ok (.aload_n 0, 1) := by decide +kernel
theorem dX12_converter_45 : decode cX12_converter 45 = .ok (.iload 4, 2) := by decide +kernel
theorem dX12_converter_47 : decode cX12_converter 47 = .ok (.ifCond .eq 7, 3) := by decide +kernel
theorem dX12_converter_50 : decode cX12_converter 50 = .ok (.iconst 0, 1) := by decide +kernel
theorem dX12_converter_51 : decode cX12_converter 51 = .ok (.goto 4, 3) := by decide +kernel
theorem dX12_converter_54 : decode cX12_converter 54 = .ok (.iconst 1, 1) := by decide +kernel
theorem dX12_converter_55 : decode cX12_converter 55 = .ok (.putfield 127, 3) := by decide +kernel
theorem dX12_converter_58 : decode cX12_converter 58 = .ok (.iload 4, 2) := by decide +kernel
theorem dX12_converter_60 : decode cX12_converter 60 = .ok (.ifCond .ne 5, 3) := by decide +kernel
theorem dX12_converter_63 : decode cX12_converter 63 = .ok (.iconst 0, 1) := by decide +kernel
theorem dX12_converter_64 : decode cX12_converter 64 = .ok (.ireturn, 1) := by decide +kernel
theorem dX12_converter_65 : decode cX12_converter 65 = .ok (.aload_n 0, 1) := by decide +kernel
theorem dX12_converter_66 : decode cX12_converter 66 = .ok (.getfield 102, 3) := by decide +kernel
theorem dX12_converter_69 : decode cX12_converter 69 = .ok (.iconst 5, 1) := by decide +kernel
theorem dX12_converter_70 : decode cX12_converter 70 = .ok (.iload_n 1, 1) := by decide +kernel
theorem dX12_converter_71 : decode cX12_converter 71 = .ok (.imul, 1) := by decide +kernel
theorem dX12_converter_72 : decode cX12_converter 72 = .ok (.iload_n 2, 1) := by decide +kernel
theorem dX12_converter_73 : decode cX12_converter 73 = .ok (.iadd, 1) := by decide +kernel
theorem dX12_converter_74 : decode cX12_converter 74 = .ok (.baload, 1) := by decide +kernel
theorem dX12_converter_75 : decode cX12_converter 75 = .ok (.istore 5, 2) := by decide +kernel
theorem dX12_converter_77 : decode cX12_converter 77 = .ok (.aload_n 0, 1) := by decide +kernel
theorem dX12_converter_78 : decode cX12_converter 78 = .ok (.getfield 102, 3) := by decide +kernel
theorem dX12_converter_81 : decode cX12_converter 81 = .ok (.iconst 5, 1) := by decide +kernel
theorem dX12_converter_82 : decode cX12_converter 82 = .ok (.iload_n 1, 1) := by decide +kernel
theorem dX12_converter_83 : decode cX12_converter 83 = .ok (.imul, 1) := by decide +kernel
theorem dX12_converter_84 : decode cX12_converter 84 = .ok (.iload_n 2, 1) := by decide +kernel
theorem dX12_converter_85 : decode cX12_converter 85 = .ok (.iadd, 1) := by decide +kernel
theorem dX12_converter_86 : decode cX12_converter 86 = .ok (.iload_n 3, 1) := by decide +kernel
theorem dX12_converter_87 : decode cX12_converter 87 = .ok (.bastore, 1) := by decide +kernel
theorem dX12_converter_88 : decode cX12_converter 88 = .ok (.iload 5, 2) := by decide +kernel
theorem dX12_converter_90 : decode cX12_converter 90 = .ok (.ireturn, 1) := by decide +kernel
theorem dX12_fieldOf_0 : decode cX12_fieldOf 0 = .ok (.aload_n 0, 1) := by decide +kernel
theorem dX12_fieldOf_1 : decode cX12_fieldOf 1 = .ok (.getfield 111, 3) := by decide +kernel
theorem dX12_fieldOf_4 : decode cX12_fieldOf 4 = .ok (.iload_n 1, 1) := by decide +kernel
theorem dX12_fieldOf_5 : decode cX12_fieldOf 5 = .ok (.iaload, 1) := by decide +kernel
theorem dX12_fieldOf_6 : decode cX12_fieldOf 6 = .ok (.bipush 8, 2) := by decide +kernel
theorem dX12_fieldOf_8 : decode cX12_fieldOf 8 = .ok (.if_icmp .ge 5, 3) := by decide +kernel
theorem dX12_fieldOf_11 : decode cX12_fieldOf 11 = .ok (.iconst (-1), 1) := by decide +kernel
theorem dX12_fieldOf_12 : decode cX12_fieldOf 12 = .ok (.ireturn, 1) := by decide +kernel
theorem dX12_fieldOf_13 : decode cX12_fieldOf 13 = .ok (.aload_n 0, 1) := by decide +kernel
theorem dX12_fieldOf_14 : decode cX12_fieldOf 14 = .ok (.getfield 114, 3) := by decide +kernel
theorem dX12_fieldOf_17 : decode cX12_fieldOf 17 = .ok (.iload_n 1, 1) := by decide +kernel
theorem dX12_fieldOf_18 : decode cX12_fieldOf 18 = .ok (.laload, 1) := by decide +kernel
theorem dX12_fieldOf_19 : decode cX12_fieldOf 19 = .ok (.l2i, 1) := by decide +kernel
theorem dX12_fieldOf_20 : decode cX12_fieldOf 20 = .ok (.istore_n 3, 1) := by decide +kernel
theorem dX12_fieldOf_21 : decode cX12_fieldOf 21 = .ok (.aload_n 0, 1) := by decide +kernel
theorem dX12_fieldOf_22 : decode cX12_fieldOf 22 = .ok (.getfield 105, 3) := by decide +kernel
theorem dX12_fieldOf_25 : decode cX12_fieldOf 25 = .ok (.iload_n 3, 1) := by decide +kernel
theorem dX12_fieldOf_26 : decode cX12_fieldOf 26 = .ok (.iaload, 1) := by decide +kernel
theorem dX12_fieldOf_27 : decode cX12_fieldOf 27 = .ok (.istore 4, 2) := by decide +kernel
theorem dX12_fieldOf_29 : decode cX12_fieldOf 29 = .ok (.iload 4, 2) := by decide +kernel
theorem dX12_fieldOf_31 : decode cX12_fieldOf 31 = .ok (.ifCond .lt 70, 3) := by decide +kernel
theorem dX12_fieldOf_34 : decode cX12_fieldOf 34 = .ok (.iconst 0, 1) := by decide +kernel
theorem dX12_fieldOf_35 : decode cX12_fieldOf 35 = .ok (.istore 5, 2) := by decide +kernel
theorem dX12_fieldOf_37 : decode cX12_fieldOf 37 = .ok (.iload 5, 2) := by decide +kernel
theorem dX12_fieldOf_39 : decode cX12_fieldOf 39 = .ok (.aload_n 0, 1) := by decide +kernel
theorem dX12_fieldOf_40 : decode cX12_fieldOf 40 = .ok (.getfield 75, 3) := by decide +kernel
theorem dX12_fieldOf_43 : decode cX12_fieldOf 43 = .ok (.iload 4, 2) := by decide +kernel
theorem dX12_fieldOf_45 : decode cX12_fieldOf 45 = .ok (.iaload, 1) := by decide +kernel
theorem dX12_fieldOf_46 : decode cX12_fieldOf 46 = .ok (.if_icmp .ge 43, 3) := by decide +kernel
theorem dX12_fieldOf_49 : decode cX12_fieldOf 49 = .ok (.aload_n 0, 1) := by decide +kernel
theorem dX12_fieldOf_50 : decode cX12_fieldOf 50 = .ok (.getfield 78, 3) := by decide +kernel
theorem dX12_fieldOf_53 : decode cX12_fieldOf 53 = .ok (.bipush 6, 2) := by decide +kernel
theorem dX12_fieldOf_55 : decode cX12_fieldOf 55 = .ok (.iload 4, 2) := by decide +kernel
theorem dX12_fieldOf_57 : decode cX12_fieldOf 57 = .ok (.imul, 1) := by decide +kernel
theorem dX12_fieldOf_58 : decode cX12_fieldOf 58 = .ok (.iload 5, 2) := by decide +kernel
theorem dX12_fieldOf_60 : decode cX12_fieldOf 60 = .ok (.iadd, 1) := by decide +kernel
theorem dX12_fieldOf_61 : decode cX12_fieldOf 61 = .ok (.iaload, 1) := by decide +kernel
theorem dX12_fieldOf_62 : decode cX12_fieldOf 62 = .ok (.iload_n 2, 1) := by decide +kernel
theorem dX12_fieldOf_63 : decode cX12_fieldOf 63 = .ok (.if_icmp .ne 20, 3) := by decide +kernel
theorem dX12_fieldOf_66 : decode cX12_fieldOf 66 = .ok (.bipush 80, 2) := by decide +kernel
theorem dX12_fieldOf_68 : decode cX12_fieldOf 68 = .ok (.bipush 30, 2) := by decide +kernel
theorem dX12_fieldOf_70 : decode cX12_fieldOf 70 = .ok (.iload_n 3, 1) := by decide +kernel
theorem dX12_fieldOf_71 : decode cX12_fieldOf 71 = .ok (.imul, 1) := by decide +kernel
theorem dX12_fieldOf_72 : decode cX12_fieldOf 72 = .ok (.iadd, 1) := by decide +kernel
theorem dX12_fieldOf_73 : decode cX12_fieldOf 73 = .ok (.bipush 6, 2) := by decide +kernel
theorem dX12_fieldOf_75 : decode cX12_fieldOf 75 = .ok (.iload 4, 2) := by decide +kernel
theorem dX12_fieldOf_77 : decode cX12_fieldOf 77 = .ok (.imul, 1) := by decide +kernel
theorem dX12_fieldOf_78 : decode cX12_fieldOf 78 = .ok (.iadd, 1) := by decide +kernel
theorem dX12_fieldOf_79 : decode cX12_fieldOf 79 = .ok (.iload 5, 2) := by decide +kernel
theorem dX12_fieldOf_81 : decode cX12_fieldOf 81 = .ok (.iadd, 1) := by decide +kernel
theorem dX12_fieldOf_82 : decode cX12_fieldOf 82 = .ok (.ireturn, 1) := by decide +kernel
theorem dX12_fieldOf_83 : decode cX12_fieldOf 83 = .ok (.iinc 5 1, 3) := by decide +kernel
theorem dX12_fieldOf_86 : decode cX12_fieldOf 86 = .ok (.goto (-49), 3) := by decide +kernel
theorem dX12_fieldOf_89 : decode cX12_fieldOf 89 = .ok (.aload_n 0, 1) := by decide +kernel
theorem dX12_fieldOf_90 : decode cX12_fieldOf 90 = .ok (.getfield 72, 3) := by decide +kernel
theorem dX12_fieldOf_93 : decode cX12_fieldOf 93 = .ok (.iload 4, 2) := by decide +kernel
theorem dX12_fieldOf_95 : decode cX12_fieldOf 95 = .ok (.iaload, 1) := by decide +kernel
theorem dX12_fieldOf_96 : decode cX12_fieldOf 96 = .ok (.istore 4, 2) := by decide +kernel
theorem dX12_fieldOf_98 : decode cX12_fieldOf 98 = .ok (.goto (-69), 3) := by decide +kernel
theorem dX12_fieldOf_101 : decode cX12_fieldOf 101 = .ok (.iconst (-1), 1) := by decide +kernel
theorem dX12_fieldOf_102 : decode cX12_fieldOf 102 = .ok (.ireturn, 1) := by decide +kernel
theorem dX12_set_0 : decode cX12_set 0 = .ok (.aload_n 0, 1) := by decide +kernel
theorem dX12_set_1 : decode cX12_set 1 = .ok (.getfield 111, 3) := by decide +kernel
theorem dX12_set_4 : decode cX12_set 4 = .ok (.iload_n 1, 1) := by decide +kernel
theorem dX12_set_5 : decode cX12_set 5 = .ok (.iload_n 2, 1) := by decide +kernel
theorem dX12_set_6 : decode cX12_set 6 = .ok (.iastore, 1) := by decide +kernel
theorem dX12_set_7 : decode cX12_set 7 = .ok (.aload_n 0, 1) := by decide +kernel
theorem dX12_set_8 : decode cX12_set 8 = .ok (.getfield 114, 3) := by decide +kernel
theorem dX12_set_11 : decode cX12_set 11 = .ok (.iload_n 1, 1) := by decide +kernel
theorem dX12_set_12 : decode cX12_set 12 = .ok (.lload_n 3, 1) := by decide +kernel
theorem dX12_set_13 : decode cX12_set 13 = .ok (.lastore, 1) := by decide +kernel
theorem dX12_set_14 : decode cX12_set 14 = .ok (.aload_n 0, 1) := by decide +kernel
theorem dX12_set_15 : decode cX12_set 15 = .ok (.getfield 117, 3) := by decide +kernel
theorem dX12_set_18 : decode cX12_set 18 = .ok (.iload_n 1, 1) := by decide +kernel
theorem dX12_set_19 : decode cX12_set 19 = .ok (.lconst 0, 1) := by decide +kernel
theorem dX12_set_20 : decode cX12_set 20 = .ok (.lastore, 1) := by decide +kernel
theorem dX12_set_21 : decode cX12_set 21 = .ok (.aload_n 0, 1) := by decide +kernel
theorem dX12_set_22 : decode cX12_set 22 = .ok (.getfield 120, 3) := by decide +kernel
theorem dX12_set_25 : decode cX12_set 25 = .ok (.iload_n 1, 1) := by decide +kernel
theorem dX12_set_26 : decode cX12_set 26 = .ok (.dload 5, 2) := by decide +kernel
theorem dX12_set_28 : decode cX12_set 28 = .ok (.dastore, 1) := by decide +kernel
theorem dX12_set_29 : decode cX12_set 29 = .ok (.return_, 1) := by decide +kernel
theorem dX12_copy_0 : decode cX12_copy 0 = .ok (.aload_n 0, 1) := by decide +kernel
theorem dX12_copy_1 : decode cX12_copy 1 = .ok (.getfield 111, 3) := by decide +kernel
theorem dX12_copy_4 : decode cX12_copy 4 = .ok (.iload_n 2, 1) := by decide +kernel
theorem dX12_copy_5 : decode cX12_copy 5 = .ok (.aload_n 0, 1) := by decide +kernel
theorem dX12_copy_6 : decode cX12_copy 6 = .ok (.getfield 111, 3) := by decide +kernel
theorem dX12_copy_9 : decode cX12_copy 9 = .ok (.iload_n 1, 1) := by decide +kernel
theorem dX12_copy_10 : decode cX12_copy 10 = .ok (.iaload, 1) := by decide +kernel
theorem dX12_copy_11 : decode cX12_copy 11 = .ok (.iastore, 1) := by decide +kernel
theorem dX12_copy_12 : decode cX12_copy 12 = .ok (.aload_n 0, 1) := by decide +kernel
theorem dX12_copy_13 : decode cX12_copy 13 = .ok (.getfield 114, 3) := by decide +kernel
theorem dX12_copy_16 : decode cX12_copy 16 = .ok (.iload_n 2, 1) := by decide +kernel
theorem dX12_copy_17 : decode cX12_copy 17 = .ok (.aload_n 0, 1) := by decide +kernel
theorem dX12_copy_18 : decode cX12_copy 18 = .ok (.getfield 114, 3) := by decide +kernel
theorem dX12_copy_21 : decode cX12_copy 21 = .ok (.iload_n 1, 1) := by decide +kernel
theorem dX12_copy_22 : decode cX12_copy 22 = .ok (.laload, 1) := by decide +kernel
theorem dX12_copy_23 : decode cX12_copy 23 = .ok (.lastore, 1) := by decide +kernel
theorem dX12_copy_24 : decode cX12_copy 24 = .ok (.aload_n 0, 1) := by decide +kernel
theorem dX12_copy_25 : decode cX12_copy 25 = .ok (.getfield 117, 3) := by decide +kernel
theorem dX12_copy_28 : decode cX12_copy 28 = .ok (.iload_n 2, 1) := by decide +kernel
theorem dX12_copy_29 : decode cX12_copy 29 = .ok (.aload_n 0, 1) := by decide +kernel
theorem dX12_copy_30 : decode cX12_copy 30 = .ok (.getfield 117, 3) := by decide +kernel
theorem dX12_copy_33 : decode cX12_copy 33 = .ok (.iload_n 1, 1) := by decide +kernel
theorem dX12_copy_34 : decode cX12_copy 34 = .ok (.laload, 1) := by decide +kernel
theorem dX12_copy_35 : decode cX12_copy 35 = .ok (.lastore, 1) := by decide +kernel
theorem dX12_copy_36 : decode cX12_copy 36 = .ok (.aload_n 0, 1) := by decide +kernel
theorem dX12_copy_37 : decode cX12_copy 37 = .ok (.getfield 120, 3) := by decide +kernel
theorem dX12_copy_40 : decode cX12_copy 40 = .ok (.iload_n 2, 1) := by decide +kernel
theorem dX12_copy_41 : decode cX12_copy 41 = .ok (.aload_n 0, 1) := by decide +kernel
theorem dX12_copy_42 : decode cX12_copy 42 = .ok (.getfield 120, 3) := by decide +kernel
theorem dX12_copy_45 : decode cX12_copy 45 = .ok (.iload_n 1, 1) := by decide +kernel
theorem dX12_copy_46 : decode cX12_copy 46 = .ok (.daload, 1) := by decide +kernel
theorem dX12_copy_47 : decode cX12_copy 47 = .ok (.dastore, 1) := by decide +kernel
theorem dX12_copy_48 : decode cX12_copy 48 = .ok (.return_, 1) := by decide +kernel
theorem dX12_push_0 : decode cX12_push 0 = .ok (.aload_n 0, 1) := by decide +kernel
theorem dX12_push_1 : decode cX12_push 1 = .ok (.aload_n 0, 1) := by decide +kernel
theorem dX12_push_2 : decode cX12_push 2 = .ok (.getfield 311, 3) := by decide +kernel
theorem dX12_push_5 : decode cX12_push 5 = .ok (.iload_n 1, 1) := by decide +kernel
theorem dX12_push_6 : decode cX12_push 6 = .ok (.lload_n 2, 1) := by decide +kernel
theorem dX12_push_7 : decode cX12_push 7 = .ok (.dconst 0, 1) := by decide +kernel
theorem dX12_push_8 : decode cX12_push 8 = .ok (.invokevirtual 314, 3) := by decide +kernel
theorem dX12_push_11 : decode cX12_push 11 = .ok (.aload_n 0, 1) := by decide +kernel
theorem dX12_push_12 : decode cX12_push 12 = .ok (.dup, 1) := by decide +kernel
theorem dX12_push_13 : decode cX12_push 13 = .ok (.getfield 311, 3) := by decide +kernel
theorem dX12_push_16 : decode cX12_push 16 = .ok (.iconst 1, 1) := by decide +kernel
theorem dX12_push_17 : decode cX12_push 17 = .ok (.iadd, 1) := by decide +kernel
theorem dX12_push_18 : decode cX12_push 18 = .ok (.putfield 311, 3) := by decide +kernel
theorem dX12_push_21 : decode cX12_push 21 = .ok (.return_, 1) := by decide +kernel
theorem dX12_lengthOf_0 : decode cX12_lengthOf 0 = .ok (.aload_n 0, 1) := by decide +kernel
theorem dX12_lengthOf_1 : decode cX12_lengthOf 1 = .ok (.getfield 114, 3) := by decide +kernel
theorem dX12_lengthOf_4 : decode cX12_lengthOf 4 = .ok (.iload_n 1, 1) := by decide +kernel
theorem dX12_lengthOf_5 : decode cX12_lengthOf 5 = .ok (.laload, 1) := by decide +kernel
theorem dX12_lengthOf_6 : decode cX12_lengthOf 6 = .ok (.bipush 56, 2) := by decide +kernel
theorem dX12_lengthOf_8 : decode cX12_lengthOf 8 = .ok (.lshr, 1) := by decide +kernel
theorem dX12_lengthOf_9 : decode cX12_lengthOf 9 = .ok (.l2i, 1) := by decide +kernel
theorem dX12_lengthOf_10 : decode cX12_lengthOf 10 = .ok (.ireturn, 1) := by decide +kernel
theorem dX12_sign8_0 : decode cX12_sign8 0 = .ok (.iload_n 2, 1) := by decide +kernel
theorem dX12_sign8_1 : decode cX12_sign8 1 = .ok (.bipush 8, 2) := by decide +kernel
theorem dX12_sign8_3 : decode cX12_sign8 3 = .ok (.if_icmp .ge 17, 3) := by decide +kernel
theorem dX12_sign8_6 : decode cX12_sign8 6 = .ok (.aload_n 0, 1) := by decide +kernel
theorem dX12_sign8_7 : decode cX12_sign8 7 = .ok (.getfield 114, 3) := by decide +kernel
theorem dX12_sign8_10 : decode cX12_sign8 10 = .ok (.iload_n 1, 1) := by decide +kernel
theorem dX12_sign8_11 : decode cX12_sign8 11 = .ok (.laload, 1) := by decide +kernel
theorem dX12_sign8_12 : decode cX12_sign8 12 = .ok (.bipush 7, 2) := by decide +kernel
theorem dX12_sign8_14 : decode cX12_sign8 14 = .ok (.iload_n 2, 1) := by decide +kernel
theorem dX12_sign8_15 : decode cX12_sign8 15 = .ok (.imul, 1) := by decide +kernel
theorem dX12_sign8_16 : decode cX12_sign8 16 = .ok (.lshr, 1) := by decide +kernel
theorem dX12_sign8_17 : decode cX12_sign8 17 = .ok (.goto 17, 3) := by decide +kernel
theorem dX12_sign8_20 : decode cX12_sign8 20 = .ok (.aload_n 0, 1) := by decide +kernel
theorem dX12_sign8_21 : decode cX12_sign8 21 = .ok (.getfield 117, 3) := by decide +kernel
theorem dX12_sign8_24 : decode cX12_sign8 24 = .ok (.iload_n 1, 1) := by decide +kernel
theorem dX12_sign8_25 : decode cX12_sign8 25 = .ok (.laload, 1) := by decide +kernel
theorem dX12_sign8_26 : decode cX12_sign8 26 = .ok (.bipush 7, 2) := by decide +kernel
theorem dX12_sign8_28 : decode cX12_sign8 28 = .ok (.iload_n 2, 1) := by decide +kernel
theorem dX12_sign8_29 : decode cX12_sign8 29 = .ok (.bipush 8, 2) := by decide +kernel
theorem dX12_sign8_31 : decode cX12_sign8 31 = .ok (.isub, 1) := by decide +kernel
theorem dX12_sign8_32 : decode cX12_sign8 32 = .ok (.imul, 1) := by decide +kernel
theorem dX12_sign8_33 : decode cX12_sign8 33 = .ok (.lshr, 1) := by decide +kernel
theorem dX12_sign8_34 : decode cX12_sign8 34 = .ok (.ldc2_w 318, 3) := by decide +kernel
theorem dX12_sign8_37 : decode cX12_sign8 37 = .ok (.land, 1) := by decide +kernel
theorem dX12_sign8_38 : decode cX12_sign8 38 = .ok (.l2i, 1) := by decide +kernel
theorem dX12_sign8_39 : decode cX12_sign8 39 = .ok (.ireturn, 1) := by decide +kernel
theorem dX12_build_0 : decode cX12_build 0 = .ok (.aload_n 0, 1) := by decide +kernel
theorem dX12_build_1 : decode cX12_build 1 = .ok (.getfield 320, 3) := by decide +kernel
theorem dX12_build_4 : decode cX12_build 4 = .ok (.bipush 48, 2) := by decide +kernel
theorem dX12_build_6 : decode cX12_build 6 = .ok (.if_icmp .ge 23, 3) := by decide +kernel
theorem dX12_build_9 : decode cX12_build 9 = .ok (.aload_n 0, 1) := by decide +kernel
theorem dX12_build_10 : decode cX12_build 10 = .ok (.getfield 124, 3) := by decide +kernel
theorem dX12_build_13 : decode cX12_build 13 = .ok (.aload_n 0, 1) := by decide +kernel
theorem dX12_build_14 : decode cX12_build 14 = .ok (.getfield 320, 3) := by decide +kernel
theorem dX12_build_17 : decode cX12_build 17 = .ok (.iload_n 1, 1) := by decide +kernel
theorem dX12_build_18 : decode cX12_build 18 = .ok (.iastore, 1) := by decide +kernel
theorem dX12_build_19 : decode cX12_build 19 = .ok (.aload_n 0, 1) := by decide +kernel
theorem dX12_build_20 : decode cX12_build 20 = .ok (.dup, 1) := by decide +kernel
theorem dX12_build_21 : decode cX12_build 21 = .ok (.getfield 320, 3) := by decide +kernel
theorem dX12_build_24 : decode cX12_build 24 = .ok (.iconst 1, 1) := by decide +kernel
theorem dX12_build_25 : decode cX12_build 25 = .ok (.iadd, 1) := by decide +kernel
theorem dX12_build_26 : decode cX12_build 26 = .ok (.putfield 320, 3) := by decide +kernel
theorem dX12_build_29 : decode cX12_build 29 = .ok (.return_, 1) := by decide +kernel
theorem dX12_buildNumber_0 : decode cX12_buildNumber 0 = .ok (.iload_n 1, 1) := by decide +kernel
theorem dX12_buildNumber_1 : decode cX12_buildNumber 1 = .ok (.ifCond .ge 9, 3) := by decide +kernel
theorem dX12_buildNumber_4 : decode cX12_buildNumber 4 = .ok (.iload_n 1, 1) := by decide +kernel
theorem dX12_buildNumber_5 : decode cX12_buildNumber 5 = .ok (.i2l, 1) := by decide +kernel
theorem dX12_buildNumber_6 : decode cX12_buildNumber 6 = .ok (.lneg, 1) := by decide +kernel
theorem dX12_buildNumber_7 : decode cX12_buildNumber 7 = .ok (.goto 5, 3) := by decide +kernel
theorem dX12_buildNumber_10 : decode cX12_buildNumber 10 = .ok (.iload_n 1, 1) := by decide +kernel
theorem dX12_buildNumber_11 : decode cX12_buildNumber 11 = .ok (.i2l, 1) := by decide +kernel
theorem dX12_buildNumber_12 : decode cX12_buildNumber 12 = .ok (.lstore_n 2, 1) := by decide +kernel
theorem dX12_buildNumber_13 : decode cX12_buildNumber 13 = .ok (.iload_n 1, 1) := by decide +kernel
theorem dX12_buildNumber_14 : decode cX12_buildNumber 14 = .ok (.ifCond .ge 9, 3) := by decide +kernel
theorem dX12_buildNumber_17 : decode cX12_buildNumber 17 = .ok (.aload_n 0, 1) := by decide +kernel
theorem dX12_buildNumber_18 : decode cX12_buildNumber 18 = .ok (.bipush 45, 2) := by decide +kernel
theorem dX12_buildNumber_20 : decode cX12_buildNumber 20 = .ok (.invokevirtual 323, 3) := by decide +kernel
theorem dX12_buildNumber_23 : decode cX12_buildNumber 23 = .ok (.lconst 1, 1) := by decide +kernel
theorem dX12_buildNumber_24 : decode cX12_buildNumber 24 = .ok (.lstore 4, 2) := by decide +kernel
theorem dX12_buildNumber_26 : decode cX12_buildNumber 26 = .ok (.iconst 0, 1) := by decide +kernel
theorem dX12_buildNumber_27 : decode cX12_buildNumber 27 = .ok (.istore 6, 2) := by decide +kernel
theorem dX12_buildNumber_29 : decode cX12_buildNumber 29 = .ok (.iload 6, 2) := by decide +kernel
theorem dX12_buildNumber_31 : decode cX12_buildNumber 31 = .ok (.bipush 10, 2) := by decide +kernel
theorem dX12_buildNumber_33 : decode cX12_buildNumber 33 = .ok (.if_icmp .ge 28, 3) := by decide +kernel
theorem dX12_buildNumber_36 : decode cX12_buildNumber 36 = .ok (.lload 4, 2) := by decide +kernel
theorem dX12_buildNumber_38 : decode cX12_buildNumber 38 = .ok (.ldc2_w 151, 3) := by decide +kernel
theorem dX12_buildNumber_41 : decode cX12_buildNumber 41 = .ok (.lmul, 1) := by decide +kernel
theorem dX12_buildNumber_42 : decode cX12_buildNumber 42 = .ok (.lload_n 2, 1) := by decide +kernel
theorem dX12_buildNumber_43 : decode cX12_buildNumber 43 = .ok (.lcmp, 1) := by decide +kernel
theorem dX12_buildNumber_44 : decode cX12_buildNumber 44 = .ok (.ifCond .gt 17, 3) := by decide +kernel
theorem dX12_buildNumber_47 : decode cX12_buildNumber 47 = .ok (.lload 4, 2) := by decide +kernel
theorem dX12_buildNumber_49 : decode cX12_buildNumber 49 = .ok (.ldc2_w 151, 3) := by decide +kernel
theorem dX12_buildNumber_52 : decode cX12_buildNumber 52 = .ok (.lmul, 1) := by decide +kernel
theorem dX12_buildNumber_53 : decode cX12_buildNumber 53 = .ok (.lstore 4, 2) := by decide +kernel
theorem dX12_buildNumber_55 : decode cX12_buildNumber 55 = .ok (.iinc 6 1, 3) := by decide +kernel
theorem dX12_buildNumber_58 : decode cX12_buildNumber 58 = .ok (.goto (-29), 3) := by decide +kernel
theorem dX12_buildNumber_61 : decode cX12_buildNumber 61 = .ok (.iconst 0, 1) := by decide +kernel
theorem dX12_buildNumber_62 : decode cX12_buildNumber 62 = .ok (.istore 6, 2) := by decide +kernel
theorem dX12_buildNumber_64 : decode cX12_buildNumber 64 = .ok (.iload 6, 2) := by decide +kernel
theorem dX12_buildNumber_66 : decode cX12_buildNumber 66 = .ok (.bipush 11, 2) := by decide +kernel
theorem dX12_buildNumber_68 : decode cX12_buildNumber 68 = .ok (.if_icmp .ge 41, 3) := by decide +kernel
theorem dX12_buildNumber_71 : decode cX12_buildNumber 71 = .ok (.lload 4, 2) := by decide +kernel
theorem dX12_buildNumber_73 : decode cX12_buildNumber 73 = .ok (.lconst 0, 1) := by decide +kernel
theorem dX12_buildNumber_74 : decode cX12_buildNumber 74 = .ok (.lcmp, 1) := by decide +kernel
theorem dX12_buildNumber_75 : decode cX12_buildNumber 75 = .ok (.ifCond .le 34, 3) := by decide +kernel
theorem dX12_buildNumber_78 : decode cX12_buildNumber 78 = .ok (.aload_n 0, 1) := by decide +kernel
theorem dX12_buildNumber_79 : decode cX12_buildNumber 79 = .ok (.ldc2_w 153, 3) := by decide +kernel
theorem dX12_buildNumber_82 : decode cX12_buildNumber 82 = .ok (.lload_n 2, 1) := by decide +kernel
theorem dX12_buildNumber_83 : decode cX12_buildNumber 83 = .ok (.lload 4, 2) := by decide +kernel
theorem dX12_buildNumber_85 : decode cX12_buildNumber 85 = .ok (.ldiv, 1) := by decide +kernel
theorem dX12_buildNumber_86 : decode cX12_buildNumber 86 = .ok (.ldc2_w 151, 3) := by decide +kernel
theorem dX12_buildNumber_89 : decode cX12_buildNumber 89 = .ok (.lrem, 1) := by decide +kernel
theorem dX12_buildNumber_90 : decode cX12_buildNumber 90 = .ok (.ladd, 1) := by decide +kernel
theorem dX12_buildNumber_91 : decode cX12_buildNumber 91 = .ok (.l2i, 1) := by decide +kernel
theorem dX12_buildNumber_92 : decode cX12_buildNumber 92 = .ok (.invokevirtual 323, 3) := by decide +kernel
theorem dX12_buildNumber_95 : decode cX12_buildNumber 95 = .ok (.lload 4, 2) := by decide +kernel
theorem dX12_buildNumber_97 : decode cX12_buildNumber 97 = .ok (.ldc2_w 151, 3) := by decide +kernel
theorem dX12_buildNumber_100 : decode cX12_buildNumber 100 = .ok (.ldiv, 1) := by decide +kernel
theorem dX12_buildNumber_101 : decode cX12_buildNumber 101 = .ok (.lstore 4, 2) := by decide +kernel
theorem dX12_buildNumber_103 : decode cX12_buildNumber 103 = .ok (.iinc 6 1, 3) := by decide +kernel
theorem dX12_buildNumber_106 : decode cX12_buildNumber 106 = .ok (.goto (-42), 3) := by decide +kernel
theorem dX12_buildNumber_109 : decode cX12_buildNumber 109 = .ok (.return_, 1) := by decide +kernel
theorem dX12_buildWord_0 : decode cX12_buildWord 0 = .ok (.aload_n 0, 1) := by decide +kernel
theorem dX12_buildWord_1 : decode cX12_buildWord 1 = .ok (.iload_n 1, 1) := by decide +kernel
theorem dX12_buildWord_2 : decode cX12_buildWord 2 = .ok (.invokevirtual 323, 3) := by decide +kernel
theorem dX12_buildWord_5 : decode cX12_buildWord 5 = .ok (.aload_n 0, 1) := by decide +kernel
theorem dX12_buildWord_6 : decode cX12_buildWord 6 = .ok (.iload_n 2, 1) := by decide +kernel
theorem dX12_buildWord_7 : decode cX12_buildWord 7 = .ok (.invokevirtual 323, 3) := by decide +kernel
theorem dX12_buildWord_10 : decode cX12_buildWord 10 = .ok (.aload_n 0, 1) := by decide +kernel
theorem dX12_buildWord_11 : decode cX12_buildWord 11 = .ok (.iload_n 3, 1) := by decide +kernel
theorem dX12_buildWord_12 : decode cX12_buildWord 12 = .ok (.invokevirtual 323, 3) := by decide +kernel
theorem dX12_buildWord_15 : decode cX12_buildWord 15 = .ok (.aload_n 0, 1) := by decide +kernel
theorem dX12_buildWord_16 : decode cX12_buildWord 16 = .ok (.iload 4, 2) := by decide +kernel
theorem dX12_buildWord_18 : decode cX12_buildWord 18 = .ok (.invokevirtual 323, 3) := by decide +kernel
theorem dX12_buildWord_21 : decode cX12_buildWord 21 = .ok (.iload 5, 2) := by decide +kernel
theorem dX12_buildWord_23 : decode cX12_buildWord 23 = .ok (.ifCond .le 9, 3) := by decide +kernel
theorem dX12_buildWord_26 : decode cX12_buildWord 26 = .ok (.aload_n 0, 1) := by decide +kernel
theorem dX12_buildWord_27 : decode cX12_buildWord 27 = .ok (.iload 5, 2) := by decide +kernel
theorem dX12_buildWord_29 : decode cX12_buildWord 29 = .ok (.invokevirtual 323, 3) := by decide +kernel
theorem dX12_buildWord_32 : decode cX12_buildWord 32 = .ok (.return_, 1) := by decide +kernel
theorem dX12_spell_0 : decode cX12_spell 0 = .ok (.aload_n 0, 1) := by decide +kernel
theorem dX12_spell_1 : decode cX12_spell 1 = .ok (.getfield 111, 3) := by decide +kernel
theorem dX12_spell_4 : decode cX12_spell 4 = .ok (.iload_n 1, 1) := by decide +kernel
theorem dX12_spell_5 : decode cX12_spell 5 = .ok (.iaload, 1) := by decide +kernel
theorem dX12_spell_6 : decode cX12_spell 6 = .ok (.iconst 4, 1) := by decide +kernel
theorem dX12_spell_7 : decode cX12_spell 7 = .ok (.if_icmp .ne 33, 3) := by decide +kernel
theorem dX12_spell_10 : decode cX12_spell 10 = .ok (.iconst 0, 1) := by decide +kernel
theorem dX12_spell_11 : decode cX12_spell 11 = .ok (.istore_n 2, 1) := by decide +kernel
theorem dX12_spell_12 : decode cX12_spell 12 = .ok (.iload_n 2, 1) := by decide +kernel
theorem dX12_spell_13 : decode cX12_spell 13 = .ok (.aload_n 0, 1) := by decide +kernel
theorem dX12_spell_14 : decode cX12_spell 14 = .ok (.iload_n 1, 1) := by decide +kernel
theorem dX12_spell_15 : decode cX12_spell 15 = .ok (.invokevirtual 326, 3) := by decide +kernel
theorem dX12_spell_18 : decode cX12_spell 18 = .ok (.if_icmp .ge 19, 3) := by decide +kernel
theorem dX12_spell_21 : decode cX12_spell 21 = .ok (.aload_n 0, 1) := by decide +kernel
theorem dX12_spell_22 : decode cX12_spell 22 = .ok (.aload_n 0, 1) := by decide +kernel
theorem dX12_spell_23 : decode cX12_spell 23 = .ok (.iload_n 1, 1) := by decide +kernel
theorem dX12_spell_24 : decode cX12_spell 24 = .ok (.iload_n 2, 1) := by decide +kernel
theorem dX12_spell_25 : decode cX12_spell 25 = .ok (.invokevirtual 329, 3) := by decide +kernel
theorem dX12_spell_28 : decode cX12_spell 28 = .ok (.invokevirtual 323, 3) := by decide +kernel
theorem dX12_spell_31 : decode cX12_spell 31 = .ok (.iinc 2 1, 3) := by decide +kernel
theorem dX12_spell_34 : decode cX12_spell 34 = .ok (.goto (-22), 3) := by decide +kernel
theorem dX12_spell_37 : decode cX12_spell 37 = .ok (.goto 157, 3) := by decide +kernel
theorem dX12_spell_40 : decode cX12_spell 40 = .ok (.aload_n 0, 1) := by decide +kernel
theorem dX12_spell_41 : decode cX12_spell 41 = .ok (.getfield 111, 3) := by decide +kernel
theorem dX12_spell_44 : decode cX12_spell 44 = .ok (.iload_n 1, 1) := by decide +kernel
theorem dX12_spell_45 : decode cX12_spell 45 = .ok (.iaload, 1) := by decide +kernel
theorem dX12_spell_46 : decode cX12_spell 46 = .ok (.iconst 2, 1) := by decide +kernel
theorem dX12_spell_47 : decode cX12_spell 47 = .ok (.if_icmp .ne 17, 3) := by decide +kernel
theorem dX12_spell_50 : decode cX12_spell 50 = .ok (.aload_n 0, 1) := by decide +kernel
theorem dX12_spell_51 : decode cX12_spell 51 = .ok (.aload_n 0, 1) := by decide +kernel
theorem dX12_spell_52 : decode cX12_spell 52 = .ok (.getfield 114, 3) := by decide +kernel
theorem dX12_spell_55 : decode cX12_spell 55 = .ok (.iload_n 1, 1) := by decide +kernel
theorem dX12_spell_56 : decode cX12_spell 56 = .ok (.laload, 1) := by decide +kernel
theorem dX12_spell_57 : decode cX12_spell 57 = .ok (.l2i, 1) := by decide +kernel
theorem dX12_spell_58 : decode cX12_spell 58 = .ok (.invokevirtual 333, 3) := by decide +kernel
theorem dX12_spell_61 : decode cX12_spell 61 = .ok (.goto 133, 3) := by decide +kernel
theorem dX12_spell_64 : decode cX12_spell 64 = .ok (.aload_n 0, 1) := by decide +kernel
theorem dX12_spell_65 : decode cX12_spell 65 = .ok (.getfield 111, 3) := by decide +kernel
theorem dX12_spell_68 : decode cX12_spell 68 = .ok (.iload_n 1, 1) := by decide +kernel
theorem dX12_spell_69 : decode cX12_spell 69 = .ok (.iaload, 1) := by decide +kernel
theorem dX12_spell_70 : decode cX12_spell 70 = .ok (.iconst 3, 1) := by decide +kernel
theorem dX12_spell_71 : decode cX12_spell 71 = .ok (.if_icmp .ne 17, 3) := by decide +kernel
theorem dX12_spell_74 : decode cX12_spell 74 = .ok (.aload_n 0, 1) := by decide +kernel
theorem dX12_spell_75 : decode cX12_spell 75 = .ok (.aload_n 0, 1) := by decide +kernel
theorem dX12_spell_76 : decode cX12_spell 76 = .ok (.getfield 120, 3) := by decide +kernel
theorem dX12_spell_79 : decode cX12_spell 79 = .ok (.iload_n 1, 1) := by decide +kernel
theorem dX12_spell_80 : decode cX12_spell 80 = .ok (.daload, 1) := by decide +kernel
theorem dX12_spell_81 : decode cX12_spell 81 = .ok (.d2i, 1) := by decide +kernel
theorem dX12_spell_82 : decode cX12_spell 82 = .ok (.invokevirtual 333, 3) := by decide +kernel
theorem dX12_spell_85 : decode cX12_spell 85 = .ok (.goto 109, 3) := by decide +kernel
theorem dX12_spell_88 : decode cX12_spell 88 = .ok (.aload_n 0, 1) := by decide +kernel
theorem dX12_spell_89 : decode cX12_spell 89 = .ok (.getfield 111, 3) := by decide +kernel
theorem dX12_spell_92 : decode cX12_spell 92 = .ok (.iload_n 1, 1) := by decide +kernel
theorem dX12_spell_93 : decode cX12_spell 93 = .ok (.iaload, 1) := by decide +kernel
theorem dX12_spell_94 : decode cX12_spell 94 = .ok (.iconst 1, 1) := by decide +kernel
theorem dX12_spell_95 : decode cX12_spell 95 = .ok (.if_icmp .ne 30, 3) := by decide +kernel
theorem dX12_spell_98 : decode cX12_spell 98 = .ok (.aload_n 0, 1) := by decide +kernel
theorem dX12_spell_99 : decode cX12_spell 99 = .ok (.getfield 114, 3) := by decide +kernel
theorem dX12_spell_102 : decode cX12_spell 102 = .ok (.iload_n 1, 1) := by decide +kernel
theorem dX12_spell_103 : decode cX12_spell 103 = .ok (.laload, 1) := by decide +kernel
theorem dX12_spell_104 : decode cX12_spell 104 = .ok (.lconst 1, 1) := by decide +kernel
theorem dX12_spell_105 : decode cX12_spell 105 = .ok (.lcmp, 1) := by decide +kernel
theorem dX12_spell_106 : decode cX12_spell 106 = .ok (.ifCond .ne 19, 3) := by decide +kernel
theorem dX12_spell_109 : decode cX12_spell 109 = .ok (.aload_n 0, 1) := by decide +kernel
theorem dX12_spell_110 : decode cX12_spell 110 = .ok (.bipush 116, 2) := by decide +kernel
theorem dX12_spell_112 : decode cX12_spell 112 = .ok (.bipush 114, 2) := by decide +kernel
theorem dX12_spell_114 : decode cX12_spell 114 = .ok (.bipush 117, 2) := by decide +kernel
theorem dX12_spell_116 : decode cX12_spell 116 = .ok (.bipush 101, 2) := by decide +kernel
theorem dX12_spell_118 : decode cX12_spell 118 = .ok (.iconst 0, 1) := by decide +kernel
theorem dX12_spell_119 : decode cX12_spell 119 = .ok (.invokevirtual 336, 3) := by decide +kernel
theorem dX12_spell_122 : decode cX12_spell 122 = .ok (.goto 72, 3) := by decide +kernel
theorem dX12_spell_125 : decode cX12_spell 125 = .ok (.aload_n 0, 1) := by decide +kernel
theorem dX12_spell_126 : decode cX12_spell 126 = .ok (.getfield 111, 3) := by decide +kernel
theorem dX12_spell_129 : decode cX12_spell 129 = .ok (.iload_n 1, 1) := by decide +kernel
theorem dX12_spell_130 : decode cX12_spell 130 = .ok (.iaload, 1) := by decide +kernel
theorem dX12_spell_131 : decode cX12_spell 131 = .ok (.iconst 1, 1) := by decide +kernel
theorem dX12_spell_132 : decode cX12_spell 132 = .ok (.if_icmp .ne 20, 3) := by decide +kernel
theorem dX12_spell_135 : decode cX12_spell 135 = .ok (.aload_n 0, 1) := by decide +kernel
theorem dX12_spell_136 : decode cX12_spell 136 = .ok (.bipush 102, 2) := by decide +kernel
theorem dX12_spell_138 : decode cX12_spell 138 = .ok (.bipush 97, 2) := by decide +kernel
theorem dX12_spell_140 : decode cX12_spell 140 = .ok (.bipush 108, 2) := by decide +kernel
theorem dX12_spell_142 : decode cX12_spell 142 = .ok (.bipush 115, 2) := by decide +kernel
theorem dX12_spell_144 : decode cX12_spell 144 = .ok (.bipush 101, 2) := by decide +kernel
theorem dX12_spell_146 : decode cX12_spell 146 = .ok (.invokevirtual 336, 3) := by decide +kernel
theorem dX12_spell_149 : decode cX12_spell 149 = .ok (.goto 45, 3) := by decide +kernel
theorem dX12_spell_152 : decode cX12_spell 152 = .ok (.aload_n 0, 1) := by decide +kernel
theorem dX12_spell_153 : decode cX12_spell 153 = .ok (.getfield 111, 3) := by decide +kernel
theorem dX12_spell_156 : decode cX12_spell 156 = .ok (.iload_n 1, 1) := by decide +kernel
theorem dX12_spell_157 : decode cX12_spell 157 = .ok (.iaload, 1) := by decide +kernel
theorem dX12_spell_158 : decode cX12_spell 158 = .ok (.ifCond .ne 19, 3) := by decide +kernel
theorem dX12_spell_161 : decode cX12_spell 161 = .ok (.aload_n 0, 1) := by decide +kernel
theorem dX12_spell_162 : decode cX12_spell 162 = .ok (.bipush 110, 2) := by decide +kernel
theorem dX12_spell_164 : decode cX12_spell 164 = .ok (.bipush 117, 2) := by decide +kernel
theorem dX12_spell_166 : decode cX12_spell 166 = .ok (.bipush 108, 2) := by decide +kernel
theorem dX12_spell_168 : decode cX12_spell 168 = .ok (.bipush 108, 2) := by decide +kernel
theorem dX12_spell_170 : decode cX12_spell 170 = .ok (.iconst 0, 1) := by decide +kernel
theorem dX12_spell_171 : decode cX12_spell 171 = .ok (.invokevirtual 336, 3) := by decide +kernel
theorem dX12_spell_174 : decode cX12_spell 174 = .ok (.goto 20, 3) := by decide +kernel
theorem dX12_spell_177 : decode cX12_spell 177 = .ok (.aload_n 0, 1) := by decide +kernel
theorem dX12_spell_178 : decode cX12_spell 178 = .ok (.bipush 111, 2) := by decide +kernel
theorem dX12_spell_180 : decode cX12_spell 180 = .ok (.invokevirtual 323, 3) := by decide +kernel
theorem dX12_spell_183 : decode cX12_spell 183 = .ok (.aload_n 0, 1) := by decide +kernel
theorem dX12_spell_184 : decode cX12_spell 184 = .ok (.aload_n 0, 1) := by decide +kernel
theorem dX12_spell_185 : decode cX12_spell 185 = .ok (.getfield 114, 3) := by decide +kernel
theorem dX12_spell_188 : decode cX12_spell 188 = .ok (.iload_n 1, 1) := by decide +kernel
theorem dX12_spell_189 : decode cX12_spell 189 = .ok (.laload, 1) := by decide +kernel
theorem dX12_spell_190 : decode cX12_spell 190 = .ok (.l2i, 1) := by decide +kernel
theorem dX12_spell_191 : decode cX12_spell 191 = .ok (.invokevirtual 333, 3) := by decide +kernel
theorem dX12_spell_194 : decode cX12_spell 194 = .ok (.return_, 1) := by decide +kernel
theorem dX12_settle_0 : decode cX12_settle 0 = .ok (.aload_n 0, 1) := by decide +kernel
theorem dX12_settle_1 : decode cX12_settle 1 = .ok (.getfield 320, 3) := by decide +kernel
theorem dX12_settle_4 : decode cX12_settle 4 = .ok (.i2l, 1) := by decide +kernel
theorem dX12_settle_5 : decode cX12_settle 5 = .ok (.bipush 56, 2) := by decide +kernel
theorem dX12_settle_7 : decode cX12_settle 7 = .ok (.lshl, 1) := by decide +kernel
theorem dX12_settle_8 : decode cX12_settle 8 = .ok (.lstore_n 2, 1) := by decide +kernel
theorem dX12_settle_9 : decode cX12_settle 9 = .ok (.lconst 0, 1) := by decide +kernel
theorem dX12_settle_10 : decode cX12_settle 10 = .ok (.lstore 4, 2) := by decide +kernel
theorem dX12_settle_12 : decode cX12_settle 12 = .ok (.iconst 0, 1) := by decide +kernel
theorem dX12_settle_13 : decode cX12_settle 13 = .ok (.istore 6, 2) := by decide +kernel
theorem dX12_settle_15 : decode cX12_settle 15 = .ok (.iload 6, 2) := by decide +kernel
theorem dX12_settle_17 : decode cX12_settle 17 = .ok (.aload_n 0, 1) := by decide +kernel
theorem dX12_settle_18 : decode cX12_settle 18 = .ok (.getfield 320, 3) := by decide +kernel
theorem dX12_settle_21 : decode cX12_settle 21 = .ok (.if_icmp .ge 58, 3) := by decide +kernel
theorem dX12_settle_24 : decode cX12_settle 24 = .ok (.iload 6, 2) := by decide +kernel
theorem dX12_settle_26 : decode cX12_settle 26 = .ok (.bipush 8, 2) := by decide +kernel
theorem dX12_settle_28 : decode cX12_settle 28 = .ok (.if_icmp .ge 23, 3) := by decide +kernel
theorem dX12_settle_31 : decode cX12_settle 31 = .ok (.lload_n 2, 1) := by decide +kernel
theorem dX12_settle_32 : decode cX12_settle 32 = .ok (.aload_n 0, 1) := by decide +kernel
theorem dX12_settle_33 : decode cX12_settle 33 = .ok (.getfield 124, 3) := by decide +kernel
theorem dX12_settle_36 : decode cX12_settle 36 = .ok (.iload 6, 2) := by decide +kernel
theorem dX12_settle_38 : decode cX12_settle 38 = .ok (.iaload, 1) := by decide +kernel
theorem dX12_settle_39 : decode cX12_settle 39 = .ok (.i2l, 1) := by decide +kernel
theorem dX12_settle_40 : decode cX12_settle 40 = .ok (.bipush 7, 2) := by decide +kernel
theorem dX12_settle_42 : decode cX12_settle 42 = .ok (.iload 6, 2) := by decide +kernel
theorem dX12_settle_44 : decode cX12_settle 44 = .ok (.imul, 1) := by decide +kernel
theorem dX12_settle_45 : decode cX12_settle 45 = .ok (.lshl, 1) := by decide +kernel
theorem dX12_settle_46 : decode cX12_settle 46 = .ok (.lor, 1) := by decide +kernel
theorem dX12_settle_47 : decode cX12_settle 47 = .ok (.lstore_n 2, 1) := by decide +kernel
theorem dX12_settle_48 : decode cX12_settle 48 = .ok (.goto 25, 3) := by decide +kernel
theorem dX12_settle_51 : decode cX12_settle 51 = .ok (.lload 4, 2) := by decide +kernel
theorem dX12_settle_53 : decode cX12_settle 53 = .ok (.aload_n 0, 1) := by decide +kernel
theorem dX12_settle_54 : decode cX12_settle 54 = .ok (.getfield 124, 3) := by decide +kernel
theorem dX12_settle_57 : decode cX12_settle 57 = .ok (.iload 6, 2) := by decide +kernel
theorem dX12_settle_59 : decode cX12_settle 59 = .ok (.iaload, 1) := by decide +kernel
theorem dX12_settle_60 : decode cX12_settle 60 = .ok (.i2l, 1) := by decide +kernel
theorem dX12_settle_61 : decode cX12_settle 61 = .ok (.bipush 7, 2) := by decide +kernel
theorem dX12_settle_63 : decode cX12_settle 63 = .ok (.iload 6, 2) := by decide +kernel
theorem dX12_settle_65 : decode cX12_settle 65 = .ok (.bipush 8, 2) := by decide +kernel
theorem dX12_settle_67 : decode cX12_settle 67 = .ok (.isub, 1) := by decide +kernel
theorem dX12_settle_68 : decode cX12_settle 68 = .ok (.imul, 1) := by decide +kernel
theorem dX12_settle_69 : decode cX12_settle 69 = .ok (.lshl, 1) := by decide +kernel
theorem dX12_settle_70 : decode cX12_settle 70 = .ok (.lor, 1) := by decide +kernel
theorem dX12_settle_71 : decode cX12_settle 71 = .ok (.lstore 4, 2) := by decide +kernel
theorem dX12_settle_73 : decode cX12_settle 73 = .ok (.iinc 6 1, 3) := by decide +kernel
theorem dX12_settle_76 : decode cX12_settle 76 = .ok (.goto (-61), 3) := by decide +kernel
theorem dX12_settle_79 : decode cX12_settle 79 = .ok (.aload_n 0, 1) := by decide +kernel
theorem dX12_settle_80 : decode cX12_settle 80 = .ok (.getfield 111, 3) := by decide +kernel
theorem dX12_settle_83 : decode cX12_settle 83 = .ok (.iload_n 1, 1) := by decide +kernel
theorem dX12_settle_84 : decode cX12_settle 84 = .ok (.iconst 4, 1) := by decide +kernel
theorem dX12_settle_85 : decode cX12_settle 85 = .ok (.iastore, 1) := by decide +kernel
theorem dX12_settle_86 : decode cX12_settle 86 = .ok (.aload_n 0, 1) := by decide +kernel
theorem dX12_settle_87 : decode cX12_settle 87 = .ok (.getfield 114, 3) := by decide +kernel
theorem dX12_settle_90 : decode cX12_settle 90 = .ok (.iload_n 1, 1) := by decide +kernel
theorem dX12_settle_91 : decode cX12_settle 91 = .ok (.lload_n 2, 1) := by decide +kernel
theorem dX12_settle_92 : decode cX12_settle 92 = .ok (.lastore, 1) := by decide +kernel
theorem dX12_settle_93 : decode cX12_settle 93 = .ok (.aload_n 0, 1) := by decide +kernel
theorem dX12_settle_94 : decode cX12_settle 94 = .ok (.getfield 117, 3) := by decide +kernel
theorem dX12_settle_97 : decode cX12_settle 97 = .ok (.iload_n 1, 1) := by decide +kernel
theorem dX12_settle_98 : decode cX12_settle 98 = .ok (.lload 4, 2) := by decide +kernel
theorem dX12_settle_100 : decode cX12_settle 100 = .ok (.lastore, 1) := by decide +kernel
theorem dX12_settle_101 : decode cX12_settle 101 = .ok (.aload_n 0, 1) := by decide +kernel
theorem dX12_settle_102 : decode cX12_settle 102 = .ok (.getfield 120, 3) := by decide +kernel
theorem dX12_settle_105 : decode cX12_settle 105 = .ok (.iload_n 1, 1) := by decide +kernel
theorem dX12_settle_106 : decode cX12_settle 106 = .ok (.dconst 0, 1) := by decide +kernel
theorem dX12_settle_107 : decode cX12_settle 107 = .ok (.dastore, 1) := by decide +kernel
theorem dX12_settle_108 : decode cX12_settle 108 = .ok (.return_, 1) := by decide +kernel
theorem dX12_intOf_0 : decode cX12_intOf 0 = .ok (.aload_n 0, 1) := by decide +kernel
theorem dX12_intOf_1 : decode cX12_intOf 1 = .ok (.iload_n 1, 1) := by decide +kernel
theorem dX12_intOf_2 : decode cX12_intOf 2 = .ok (.invokevirtual 326, 3) := by decide +kernel
theorem dX12_intOf_5 : decode cX12_intOf 5 = .ok (.istore_n 2, 1) := by decide +kernel
theorem dX12_intOf_6 : decode cX12_intOf 6 = .ok (.iload_n 2, 1) := by decide +kernel
theorem dX12_intOf_7 : decode cX12_intOf 7 = .ok (.ifCond .le 18, 3) := by decide +kernel
theorem dX12_intOf_10 : decode cX12_intOf 10 = .ok (.aload_n 0, 1) := by decide +kernel
theorem dX12_intOf_11 : decode cX12_intOf 11 = .ok (.iload_n 1, 1) := by decide +kernel
theorem dX12_intOf_12 : decode cX12_intOf 12 = .ok (.iconst 0, 1) := by decide +kernel
theorem dX12_intOf_13 : decode cX12_intOf 13 = .ok (.invokevirtual 329, 3) := by decide +kernel
theorem dX12_intOf_16 : decode cX12_intOf 16 = .ok (.bipush 45, 2) := by decide +kernel
theorem dX12_intOf_18 : decode cX12_intOf 18 = .ok (.if_icmp .ne 7, 3) := by decide +kernel
theorem dX12_intOf_21 : decode cX12_intOf 21 = .ok (.iconst 1, 1) := by decide +kernel
theorem dX12_intOf_22 : decode cX12_intOf 22 = .ok (.goto 4, 3) := by decide +kernel
theorem dX12_intOf_25 : decode cX12_intOf 25 = .ok (.iconst 0, 1) := by decide +kernel
theorem dX12_intOf_26 : decode cX12_intOf 26 = .ok (.istore_n 3, 1) := by decide +kernel
theorem dX12_intOf_27 : decode cX12_intOf 27 = .ok (.iload_n 2, 1) := by decide +kernel
theorem dX12_intOf_28 : decode cX12_intOf 28 = .ok (.iload_n 3, 1) := by decide +kernel
theorem dX12_intOf_29 : decode cX12_intOf 29 = .ok (.isub, 1) := by decide +kernel
theorem dX12_intOf_30 : decode cX12_intOf 30 = .ok (.iconst 1, 1) := by decide +kernel
theorem dX12_intOf_31 : decode cX12_intOf 31 = .ok (.if_icmp .lt 15, 3) := by decide +kernel
theorem dX12_intOf_34 : decode cX12_intOf 34 = .ok (.iload_n 2, 1) := by decide +kernel
theorem dX12_intOf_35 : decode cX12_intOf 35 = .ok (.iload_n 3, 1) := by decide +kernel
theorem dX12_intOf_36 : decode cX12_intOf 36 = .ok (.isub, 1) := by decide +kernel
theorem dX12_intOf_37 : decode cX12_intOf 37 = .ok (.bipush 9, 2) := by decide +kernel
theorem dX12_intOf_39 : decode cX12_intOf 39 = .ok (.if_icmp .gt 7, 3) := by decide +kernel
theorem dX12_intOf_42 : decode cX12_intOf 42 = .ok (.iconst 1, 1) := by decide +kernel
theorem dX12_intOf_43 : decode cX12_intOf 43 = .ok (.goto 4, 3) := by decide +kernel
theorem dX12_intOf_46 : decode cX12_intOf 46 = .ok (.iconst 0, 1) := by decide +kernel
theorem dX12_intOf_47 : decode cX12_intOf 47 = .ok (.istore 4, 2) := by decide +kernel
theorem dX12_intOf_49 : decode cX12_intOf 49 = .ok (.iconst 0, 1) := by decide +kernel
theorem dX12_intOf_50 : decode cX12_intOf 50 = .ok (.istore 5, 2) := by decide +kernel
theorem dX12_intOf_52 : decode cX12_intOf 52 = .ok (.iload_n 3, 1) := by decide +kernel
theorem dX12_intOf_53 : decode cX12_intOf 53 = .ok (.istore 6, 2) := by decide +kernel
theorem dX12_intOf_55 : decode cX12_intOf 55 = .ok (.iload 6, 2) := by decide +kernel
theorem dX12_intOf_57 : decode cX12_intOf 57 = .ok (.iload_n 2, 1) := by decide +kernel
theorem dX12_intOf_58 : decode cX12_intOf 58 = .ok (.if_icmp .ge 57, 3) := by decide +kernel
theorem dX12_intOf_61 : decode cX12_intOf 61 = .ok (.iload 4, 2) := by decide +kernel
theorem dX12_intOf_63 : decode cX12_intOf 63 = .ok (.ifCond .eq 52, 3) := by decide +kernel
theorem dX12_intOf_66 : decode cX12_intOf 66 = .ok (.aload_n 0, 1) := by decide +kernel
theorem dX12_intOf_67 : decode cX12_intOf 67 = .ok (.iload_n 1, 1) := by decide +kernel
theorem dX12_intOf_68 : decode cX12_intOf 68 = .ok (.iload 6, 2) := by decide +kernel
theorem dX12_intOf_70 : decode cX12_intOf 70 = .ok (.invokevirtual 329, 3) := by decide +kernel
theorem dX12_intOf_73 : decode cX12_intOf 73 = .ok (.istore 7, 2) := by decide +kernel
theorem dX12_intOf_75 : decode cX12_intOf 75 = .ok (.iload 7, 2) := by decide +kernel
theorem dX12_intOf_77 : decode cX12_intOf 77 = .ok (.bipush 48, 2) := by decide +kernel
theorem dX12_intOf_79 : decode cX12_intOf 79 = .ok (.if_icmp .lt 14, 3) := by decide +kernel
theorem dX12_intOf_82 : decode cX12_intOf 82 = .ok (.iload 7, 2) := by decide +kernel
theorem dX12_intOf_84 : decode cX12_intOf 84 = .ok (.bipush 57, 2) := by decide +kernel
theorem dX12_intOf_86 : decode cX12_intOf 86 = .ok (.if_icmp .gt 7, 3) := by decide +kernel
theorem dX12_intOf_89 : decode cX12_intOf 89 = .ok (.iconst 1, 1) := by decide +kernel
theorem dX12_intOf_90 : decode cX12_intOf 90 = .ok (.goto 4, 3) := by decide +kernel
theorem dX12_intOf_93 : decode cX12_intOf 93 = .ok (.iconst 0, 1) := by decide +kernel
theorem dX12_intOf_94 : decode cX12_intOf 94 = .ok (.istore 4, 2) := by decide +kernel
theorem dX12_intOf_96 : decode cX12_intOf 96 = .ok (.bipush 10, 2) := by decide +kernel
theorem dX12_intOf_98 : decode cX12_intOf 98 = .ok (.iload 5, 2) := by decide +kernel
theorem dX12_intOf_100 : decode cX12_intOf 100 = .ok (.imul, 1) := by decide +kernel
theorem dX12_intOf_101 : decode cX12_intOf 101 = .ok (.iload 7, 2) := by decide +kernel
theorem dX12_intOf_103 : decode cX12_intOf 103 = .ok (.iadd, 1) := by decide +kernel
theorem dX12_intOf_104 : decode cX12_intOf 104 = .ok (.bipush 48, 2) := by decide +kernel
theorem dX12_intOf_106 : decode cX12_intOf 106 = .ok (.isub, 1) := by decide +kernel
theorem dX12_intOf_107 : decode cX12_intOf 107 = .ok (.istore 5, 2) := by decide +kernel
theorem dX12_intOf_109 : decode cX12_intOf 109 = .ok (.iinc 6 1, 3) := by decide +kernel
theorem dX12_intOf_112 : decode cX12_intOf 112 = .ok (.goto (-57), 3) := by decide +kernel
theorem dX12_intOf_115 : decode cX12_intOf 115 = .ok (.aload_n 0, 1) := by decide +kernel
theorem dX12_intOf_116 : decode cX12_intOf 116 = .ok (.iload 4, 2) := by decide +kernel
theorem dX12_intOf_118 : decode cX12_intOf 118 = .ok (.ifCond .eq 10, 3) := by decide +kernel
theorem dX12_intOf_121 : decode cX12_intOf 121 = .ok (.aload_n 0, 1) := by decide +kernel
theorem dX12_intOf_122 : decode cX12_intOf 122 = .ok (.getfield 340, 3) := by decide +kernel
theorem dX12_intOf_125 : decode cX12_intOf 125 = .ok (.goto 5, 3) := by decide +kernel
theorem dX12_intOf_128 : decode cX12_intOf 128 = .ok (.bipush 10, 2) := by decide +kernel
theorem dX12_intOf_130 : decode cX12_intOf 130 = .ok (.putfield 340, 3) := by decide +kernel
theorem dX12_intOf_133 : decode cX12_intOf 133 = .ok (.iload_n 3, 1) := by decide +kernel
theorem dX12_intOf_134 : decode cX12_intOf 134 = .ok (.iconst 1, 1) := by decide +kernel
theorem dX12_intOf_135 : decode cX12_intOf 135 = .ok (.if_icmp .ne 9, 3) := by decide +kernel
theorem dX12_intOf_138 : decode cX12_intOf 138 = .ok (.iload 5, 2) := by decide +kernel
theorem dX12_intOf_140 : decode cX12_intOf 140 = .ok (.ineg, 1) := by decide +kernel
theorem dX12_intOf_141 : decode cX12_intOf 141 = .ok (.goto 5, 3) := by decide +kernel
theorem dX12_intOf_144 : decode cX12_intOf 144 = .ok (.iload 5, 2) := by decide +kernel
theorem dX12_intOf_146 : decode cX12_intOf 146 = .ok (.ireturn, 1) := by decide +kernel
theorem dX12_whole_0 : decode cX12_whole 0 = .ok (.aload_n 0, 1) := by decide +kernel
theorem dX12_whole_1 : decode cX12_whole 1 = .ok (.getfield 111, 3) := by decide +kernel
theorem dX12_whole_4 : decode cX12_whole 4 = .ok (.iload_n 1, 1) := by decide +kernel
theorem dX12_whole_5 : decode cX12_whole 5 = .ok (.iaload, 1) := by decide +kernel
theorem dX12_whole_6 : decode cX12_whole 6 = .ok (.iconst 4, 1) := by decide +kernel
theorem dX12_whole_7 : decode cX12_whole 7 = .ok (.if_icmp .ne 11, 3) := by decide +kernel
theorem dX12_whole_10 : decode cX12_whole 10 = .ok (.aload_n 0, 1) := by decide +kernel
theorem dX12_whole_11 : decode cX12_whole 11 = .ok (.iload_n 1, 1) := by decide +kernel
theorem dX12_whole_12 : decode cX12_whole 12 = .ok (.invokevirtual 343, 3) := by decide +kernel
theorem dX12_whole_15 : decode cX12_whole 15 = .ok (.goto 30, 3) := by decide +kernel
theorem dX12_whole_18 : decode cX12_whole 18 = .ok (.aload_n 0, 1) := by decide +kernel
theorem dX12_whole_19 : decode cX12_whole 19 = .ok (.getfield 111, 3) := by decide +kernel
theorem dX12_whole_22 : decode cX12_whole 22 = .ok (.iload_n 1, 1) := by decide +kernel
theorem dX12_whole_23 : decode cX12_whole 23 = .ok (.iaload, 1) := by decide +kernel
theorem dX12_whole_24 : decode cX12_whole 24 = .ok (.iconst 3, 1) := by decide +kernel
theorem dX12_whole_25 : decode cX12_whole 25 = .ok (.if_icmp .ne 13, 3) := by decide +kernel
theorem dX12_whole_28 : decode cX12_whole 28 = .ok (.aload_n 0, 1) := by decide +kernel
theorem dX12_whole_29 : decode cX12_whole 29 = .ok (.getfield 120, 3) := by decide +kernel
theorem dX12_whole_32 : decode cX12_whole 32 = .ok (.iload_n 1, 1) := by decide +kernel
theorem dX12_whole_33 : decode cX12_whole 33 = .ok (.daload, 1) := by decide +kernel
theorem dX12_whole_34 : decode cX12_whole 34 = .ok (.d2i, 1) := by decide +kernel
theorem dX12_whole_35 : decode cX12_whole 35 = .ok (.goto 10, 3) := by decide +kernel
theorem dX12_whole_38 : decode cX12_whole 38 = .ok (.aload_n 0, 1) := by decide +kernel
theorem dX12_whole_39 : decode cX12_whole 39 = .ok (.getfield 114, 3) := by decide +kernel
theorem dX12_whole_42 : decode cX12_whole 42 = .ok (.iload_n 1, 1) := by decide +kernel
theorem dX12_whole_43 : decode cX12_whole 43 = .ok (.laload, 1) := by decide +kernel
theorem dX12_whole_44 : decode cX12_whole 44 = .ok (.l2i, 1) := by decide +kernel
theorem dX12_whole_45 : decode cX12_whole 45 = .ok (.ireturn, 1) := by decide +kernel
theorem dX12_spells_0 : decode cX12_spells 0 = .ok (.aload_n 0, 1) := by decide +kernel
theorem dX12_spells_1 : decode cX12_spells 1 = .ok (.iload_n 1, 1) := by decide +kernel
theorem dX12_spells_2 : decode cX12_spells 2 = .ok (.invokevirtual 326, 3) := by decide +kernel
theorem dX12_spells_5 : decode cX12_spells 5 = .ok (.iload 6, 2) := by decide +kernel
theorem dX12_spells_7 : decode cX12_spells 7 = .ok (.ifCond .le 7, 3) := by decide +kernel
theorem dX12_spells_10 : decode cX12_spells 10 = .ok (.iconst 5, 1) := by decide +kernel
theorem dX12_spells_11 : decode cX12_spells 11 = .ok (.goto 4, 3) := by decide +kernel
theorem dX12_spells_14 : decode cX12_spells 14 = .ok (.iconst 4, 1) := by decide +kernel
theorem dX12_spells_15 : decode cX12_spells 15 = .ok (.if_icmp .ne 49, 3) := by decide +kernel
theorem dX12_spells_18 : decode cX12_spells 18 = .ok (.aload_n 0, 1) := by decide +kernel
theorem dX12_spells_19 : decode cX12_spells 19 = .ok (.iload_n 1, 1) := by decide +kernel
theorem dX12_spells_20 : decode cX12_spells 20 = .ok (.iconst 0, 1) := by decide +kernel
theorem dX12_spells_21 : decode cX12_spells 21 = .ok (.invokevirtual 329, 3) := by decide +kernel
theorem dX12_spells_24 : decode cX12_spells 24 = .ok (.iload_n 2, 1) := by decide +kernel
theorem dX12_spells_25 : decode cX12_spells 25 = .ok (.if_icmp .ne 39, 3) := by decide +kernel
theorem dX12_spells_28 : decode cX12_spells 28 = .ok (.aload_n 0, 1) := by decide +kernel
theorem dX12_spells_29 : decode cX12_spells 29 = .ok (.iload_n 1, 1) := by decide +kernel
theorem dX12_spells_30 : decode cX12_spells 30 = .ok (.iconst 1, 1) := by decide +kernel
theorem dX12_spells_31 : decode cX12_spells 31 = .ok (.invokevirtual 329, 3) := by decide +kernel
theorem dX12_spells_34 : decode cX12_spells 34 = .ok (.iload_n 3, 1) := by decide +kernel
theorem dX12_spells_35 : decode cX12_spells 35 = .ok (.if_icmp .ne 29, 3) := by decide +kernel
theorem dX12_spells_38 : decode cX12_spells 38 = .ok (.aload_n 0, 1) := by decide +kernel
theorem dX12_spells_39 : decode cX12_spells 39 = .ok (.iload_n 1, 1) := by decide +kernel
theorem dX12_spells_40 : decode cX12_spells 40 = .ok (.iconst 2, 1) := by decide +kernel
theorem dX12_spells_41 : decode cX12_spells 41 = .ok (.invokevirtual 329, 3) := by decide +kernel
theorem dX12_spells_44 : decode cX12_spells 44 = .ok (.iload 4, 2) := by decide +kernel
theorem dX12_spells_46 : decode cX12_spells 46 = .ok (.if_icmp .ne 18, 3) := by decide +kernel
theorem dX12_spells_49 : decode cX12_spells 49 = .ok (.aload_n 0, 1) := by decide +kernel
theorem dX12_spells_50 : decode cX12_spells 50 = .ok (.iload_n 1, 1) := by decide +kernel
theorem dX12_spells_51 : decode cX12_spells 51 = .ok (.iconst 3, 1) := by decide +kernel
theorem dX12_spells_52 : decode cX12_spells 52 = .ok (.invokevirtual 329, 3) := by decide +kernel
theorem dX12_spells_55 : decode cX12_spells 55 = .ok (.iload 5, 2) := by decide +kernel
theorem dX12_spells_57 : decode cX12_spells 57 = .ok (.if_icmp .ne 7, 3) := by decide +kernel
theorem dX12_spells_60 : decode cX12_spells 60 = .ok (.iconst 1, 1) := by decide +kernel
theorem dX12_spells_61 : decode cX12_spells 61 = .ok (.goto 4, 3) := by decide +kernel
theorem dX12_spells_64 : decode cX12_spells 64 = .ok (.iconst 0, 1) := by decide +kernel
theorem dX12_spells_65 : decode cX12_spells 65 = .ok (.istore 7, 2) := by decide +kernel
theorem dX12_spells_67 : decode cX12_spells 67 = .ok (.iload 7, 2) := by decide +kernel
theorem dX12_spells_69 : decode cX12_spells 69 = .ok (.ifCond .eq 23, 3) := by decide +kernel
theorem dX12_spells_72 : decode cX12_spells 72 = .ok (.iload 6, 2) := by decide +kernel
theorem dX12_spells_74 : decode cX12_spells 74 = .ok (.ifCond .eq 14, 3) := by decide +kernel
theorem dX12_spells_77 : decode cX12_spells 77 = .ok (.aload_n 0, 1) := by decide +kernel
theorem dX12_spells_78 : decode cX12_spells 78 = .ok (.iload_n 1, 1) := by decide +kernel
theorem dX12_spells_79 : decode cX12_spells 79 = .ok (.iconst 4, 1) := by decide +kernel
theorem dX12_spells_80 : decode cX12_spells 80 = .ok (.invokevirtual 329, 3) := by decide +kernel
theorem dX12_spells_83 : decode cX12_spells 83 = .ok (.iload 6, 2) := by decide +kernel
theorem dX12_spells_85 : decode cX12_spells 85 = .ok (.if_icmp .ne 7, 3) := by decide +kernel
theorem dX12_spells_88 : decode cX12_spells 88 = .ok (.iconst 1, 1) := by decide +kernel
theorem dX12_spells_89 : decode cX12_spells 89 = .ok (.goto 4, 3) := by decide +kernel
theorem dX12_spells_92 : decode cX12_spells 92 = .ok (.iconst 0, 1) := by decide +kernel
theorem dX12_spells_93 : decode cX12_spells 93 = .ok (.ireturn, 1) := by decide +kernel
theorem dX12_toBool_0 : decode cX12_toBool 0 = .ok (.aload_n 0, 1) := by decide +kernel
theorem dX12_toBool_1 : decode cX12_toBool 1 = .ok (.getfield 111, 3) := by decide +kernel
theorem dX12_toBool_4 : decode cX12_toBool 4 = .ok (.iload_n 1, 1) := by decide +kernel
theorem dX12_toBool_5 : decode cX12_toBool 5 = .ok (.iaload, 1) := by decide +kernel
theorem dX12_toBool_6 : decode cX12_toBool 6 = .ok (.bipush 8, 2) := by decide +kernel
theorem dX12_toBool_8 : decode cX12_toBool 8 = .ok (.if_icmp .ge 34, 3) := by decide +kernel
theorem dX12_toBool_11 : decode cX12_toBool 11 = .ok (.aload_n 0, 1) := by decide +kernel
theorem dX12_toBool_12 : decode cX12_toBool 12 = .ok (.getfield 111, 3) := by decide +kernel
theorem dX12_toBool_15 : decode cX12_toBool 15 = .ok (.iload_n 1, 1) := by decide +kernel
theorem dX12_toBool_16 : decode cX12_toBool 16 = .ok (.iaload, 1) := by decide +kernel
theorem dX12_toBool_17 : decode cX12_toBool 17 = .ok (.iconst 3, 1) := by decide +kernel
theorem dX12_toBool_18 : decode cX12_toBool 18 = .ok (.if_icmp .eq 28, 3) := by decide +kernel
theorem dX12_toBool_21 : decode cX12_toBool 21 = .ok (.aload_n 0, 1) := by decide +kernel
theorem dX12_toBool_22 : decode cX12_toBool 22 = .ok (.getfield 111, 3) := by decide +kernel
theorem dX12_toBool_25 : decode cX12_toBool 25 = .ok (.iload_n 1, 1) := by decide +kernel
theorem dX12_toBool_26 : decode cX12_toBool 26 = .ok (.iaload, 1) := by decide +kernel
theorem dX12_toBool_27 : decode cX12_toBool 27 = .ok (.iconst 4, 1) := by decide +kernel
theorem dX12_toBool_28 : decode cX12_toBool 28 = .ok (.if_icmp .eq 18, 3) := by decide +kernel
theorem dX12_toBool_31 : decode cX12_toBool 31 = .ok (.aload_n 0, 1) := by decide +kernel
theorem dX12_toBool_32 : decode cX12_toBool 32 = .ok (.getfield 114, 3) := by decide +kernel
theorem dX12_toBool_35 : decode cX12_toBool 35 = .ok (.iload_n 1, 1) := by decide +kernel
theorem dX12_toBool_36 : decode cX12_toBool 36 = .ok (.laload, 1) := by decide +kernel
theorem dX12_toBool_37 : decode cX12_toBool 37 = .ok (.lconst 0, 1) := by decide +kernel
theorem dX12_toBool_38 : decode cX12_toBool 38 = .ok (.lcmp, 1) := by decide +kernel
theorem dX12_toBool_39 : decode cX12_toBool 39 = .ok (.ifCond .eq 7, 3) := by decide +kernel
theorem dX12_toBool_42 : decode cX12_toBool 42 = .ok (.iconst 1, 1) := by decide +kernel
theorem dX12_toBool_43 : decode cX12_toBool 43 = .ok (.goto 4, 3) := by decide +kernel
theorem dX12_toBool_46 : decode cX12_toBool 46 = .ok (.iconst 0, 1) := by decide +kernel
theorem dX12_toBool_47 : decode cX12_toBool 47 = .ok (.istore_n 2, 1) := by decide +kernel
theorem dX12_toBool_48 : decode cX12_toBool 48 = .ok (.aload_n 0, 1) := by decide +kernel
theorem dX12_toBool_49 : decode cX12_toBool 49 = .ok (.getfield 111, 3) := by decide +kernel
theorem dX12_toBool_52 : decode cX12_toBool 52 = .ok (.iload_n 1, 1) := by decide +kernel
theorem dX12_toBool_53 : decode cX12_toBool 53 = .ok (.iaload, 1) := by decide +kernel
theorem dX12_toBool_54 : decode cX12_toBool 54 = .ok (.iconst 3, 1) := by decide +kernel
theorem dX12_toBool_55 : decode cX12_toBool 55 = .ok (.if_icmp .ne 23, 3) := by decide +kernel
theorem dX12_toBool_58 : decode cX12_toBool 58 = .ok (.aload_n 0, 1) := by decide +kernel
theorem dX12_toBool_59 : decode cX12_toBool 59 = .ok (.getfield 120, 3) := by decide +kernel
theorem dX12_toBool_62 : decode cX12_toBool 62 = .ok (.iload_n 1, 1) := by decide +kernel
theorem dX12_toBool_63 : decode cX12_toBool 63 = .ok (.daload, 1) := by decide +kernel
theorem dX12_toBool_64 : decode cX12_toBool 64 = .ok (.dconst 0, 1) := by decide +kernel
theorem dX12_toBool_65 : decode cX12_toBool 65 = .ok (.dcmp .l, 1) := by decide +kernel
theorem dX12_toBool_66 : decode cX12_toBool 66 = .ok (.ifCond .eq 7, 3) := by decide +kernel
theorem dX12_toBool_69 : decode cX12_toBool 69 = .ok (.iconst 1, 1) := by decide +kernel
theorem dX12_toBool_70 : decode cX12_toBool 70 = .ok (.goto 4, 3) := by decide +kernel
theorem dX12_toBool_73 : decode cX12_toBool 73 = .ok (.iconst 0, 1) := by decide +kernel
theorem dX12_toBool_74 : decode cX12_toBool 74 = .ok (.istore_n 2, 1) := by decide +kernel
theorem dX12_toBool_75 : decode cX12_toBool 75 = .ok (.goto 63, 3) := by decide +kernel
theorem dX12_toBool_78 : decode cX12_toBool 78 = .ok (.aload_n 0, 1) := by decide +kernel
theorem dX12_toBool_79 : decode cX12_toBool 79 = .ok (.getfield 111, 3) := by decide +kernel
theorem dX12_toBool_82 : decode cX12_toBool 82 = .ok (.iload_n 1, 1) := by decide +kernel
theorem dX12_toBool_83 : decode cX12_toBool 83 = .ok (.iaload, 1) := by decide +kernel
theorem dX12_toBool_84 : decode cX12_toBool 84 = .ok (.iconst 4, 1) := by decide +kernel
theorem dX12_toBool_85 : decode cX12_toBool 85 = .ok (.if_icmp .ne 53, 3) := by decide +kernel
theorem dX12_toBool_88 : decode cX12_toBool 88 = .ok (.aload_n 0, 1) := by decide +kernel
theorem dX12_toBool_89 : decode cX12_toBool 89 = .ok (.iload_n 1, 1) := by decide +kernel
theorem dX12_toBool_90 : decode cX12_toBool 90 = .ok (.bipush 116, 2) := by decide +kernel
theorem dX12_toBool_92 : decode cX12_toBool 92 = .ok (.bipush 114, 2) := by decide +kernel
theorem dX12_toBool_94 : decode cX12_toBool 94 = .ok (.bipush 117, 2) := by decide +kernel
theorem dX12_toBool_96 : decode cX12_toBool 96 = .ok (.bipush 101, 2) := by decide +kernel
theorem dX12_toBool_98 : decode cX12_toBool 98 = .ok (.iconst 0, 1) := by decide +kernel
theorem dX12_toBool_99 : decode cX12_toBool 99 = .ok (.invokevirtual 346, 3) := by decide +kernel
theorem dX12_toBool_102 : decode cX12_toBool 102 = .ok (.istore_n 2, 1) := by decide +kernel
theorem dX12_toBool_103 : decode cX12_toBool 103 = .ok (.aload_n 0, 1) := by decide +kernel
theorem dX12_toBool_104 : decode cX12_toBool 104 = .ok (.iload_n 2, 1) := by decide +kernel
theorem dX12_toBool_105 : decode cX12_toBool 105 = .ok (.ifCond .ne 21, 3) := by decide +kernel
theorem dX12_toBool_108 : decode cX12_toBool 108 = .ok (.aload_n 0, 1) := by decide +kernel
theorem dX12_toBool_109 : decode cX12_toBool 109 = .ok (.iload_n 1, 1) := by decide +kernel
theorem dX12_toBool_110 : decode cX12_toBool 110 = .ok (.bipush 102, 2) := by decide +kernel
theorem dX12_toBool_112 : decode cX12_toBool 112 = .ok (.bipush 97, 2) := by decide +kernel
theorem dX12_toBool_114 : decode cX12_toBool 114 = .ok (.bipush 108, 2) := by decide +kernel
theorem dX12_toBool_116 : decode cX12_toBool 116 = .ok (.bipush 115, 2) := by decide +kernel
theorem dX12_toBool_118 : decode cX12_toBool 118 = .ok (.bipush 101, 2) := by decide +kernel
theorem dX12_toBool_120 : decode cX12_toBool 120 = .ok (.invokevirtual 346, 3) := by decide +kernel
theorem dX12_toBool_123 : decode cX12_toBool 123 = .ok (.ifCond .eq 10, 3) := by decide +kernel
theorem dX12_toBool_126 : decode cX12_toBool 126 = .ok (.aload_n 0, 1) := by decide +kernel
theorem dX12_toBool_127 : decode cX12_toBool 127 = .ok (.getfield 340, 3) := by decide +kernel
theorem dX12_toBool_130 : decode cX12_toBool 130 = .ok (.goto 5, 3) := by decide +kernel
theorem dX12_toBool_133 : decode cX12_toBool 133 = .ok (.bipush 10, 2) := by decide +kernel
theorem dX12_toBool_135 : decode cX12_toBool 135 = .ok (.putfield 340, 3) := by decide +kernel
theorem dX12_toBool_138 : decode cX12_toBool 138 = .ok (.aload_n 0, 1) := by decide +kernel
theorem dX12_toBool_139 : decode cX12_toBool 139 = .ok (.iload_n 1, 1) := by decide +kernel
theorem dX12_toBool_140 : decode cX12_toBool 140 = .ok (.iconst 1, 1) := by decide +kernel
theorem dX12_toBool_141 : decode cX12_toBool 141 = .ok (.iload_n 2, 1) := by decide +kernel
theorem dX12_toBool_142 : decode cX12_toBool 142 = .ok (.ifCond .eq 7, 3) := by decide +kernel
theorem dX12_toBool_145 : decode cX12_toBool 145 = .ok (.lconst 1, 1) := by decide +kernel
theorem dX12_toBool_146 : decode cX12_toBool 146 = .ok (.goto 4, 3) := by decide +kernel
theorem dX12_toBool_149 : decode cX12_toBool 149 = .ok (.lconst 0, 1) := by decide +kernel
theorem dX12_toBool_150 : decode cX12_toBool 150 = .ok (.dconst 0, 1) := by decide +kernel
theorem dX12_toBool_151 : decode cX12_toBool 151 = .ok (.invokevirtual 314, 3) := by decide +kernel
theorem dX12_toBool_154 : decode cX12_toBool 154 = .ok (.return_, 1) := by decide +kernel
theorem dX12_convert_0 : decode cX12_convert 0 = .ok (.iload_n 2, 1) := by decide +kernel
theorem dX12_convert_1 : decode cX12_convert 1 = .ok (.iconst 4, 1) := by decide +kernel
theorem dX12_convert_2 : decode cX12_convert 2 = .ok (.if_icmp .ne 21, 3) := by decide +kernel
theorem dX12_convert_5 : decode cX12_convert 5 = .ok (.aload_n 0, 1) := by decide +kernel
theorem dX12_convert_6 : decode cX12_convert 6 = .ok (.iconst 0, 1) := by decide +kernel
theorem dX12_convert_7 : decode cX12_convert 7 = .ok (.putfield 320, 3) := by decide +kernel
theorem dX12_convert_10 : decode cX12_convert 10 = .ok (.aload_n 0, 1) := by decide +kernel
theorem dX12_convert_11 : decode cX12_convert 11 = .ok (.iload_n 1, 1) := by decide +kernel
theorem dX12_convert_12 : decode cX12_convert 12 = .ok (.invokevirtual 350, 3) := by decide +kernel
theorem dX12_convert_15 : decode cX12_convert 15 = .ok (.aload_n 0, 1) := by decide +kernel
theorem dX12_convert_16 : decode cX12_convert 16 = .ok (.iload_n 1, 1) := by decide +kernel
theorem dX12_convert_17 : decode cX12_convert 17 = .ok (.invokevirtual 353, 3) := by decide +kernel
theorem dX12_convert_20 : decode cX12_convert 20 = .ok (.goto 64, 3) := by decide +kernel
theorem dX12_convert_23 : decode cX12_convert 23 = .ok (.iload_n 2, 1) := by decide +kernel
theorem dX12_convert_24 : decode cX12_convert 24 = .ok (.iconst 1, 1) := by decide +kernel
theorem dX12_convert_25 : decode cX12_convert 25 = .ok (.if_icmp .ne 11, 3) := by decide +kernel
theorem dX12_convert_28 : decode cX12_convert 28 = .ok (.aload_n 0, 1) := by decide +kernel
theorem dX12_convert_29 : decode cX12_convert 29 = .ok (.iload_n 1, 1) := by decide +kernel
theorem dX12_convert_30 : decode cX12_convert 30 = .ok (.invokevirtual 356, 3) := by decide +kernel
theorem dX12_convert_33 : decode cX12_convert 33 = .ok (.goto 51, 3) := by decide +kernel
theorem dX12_convert_36 : decode cX12_convert 36 = .ok (.iload_n 2, 1) := by decide +kernel
theorem dX12_convert_37 : decode cX12_convert 37 = .ok (.iconst 2, 1) := by decide +kernel
theorem dX12_convert_38 : decode cX12_convert 38 = .ok (.if_icmp .ne 21, 3) := by decide +kernel
theorem dX12_convert_41 : decode cX12_convert 41 = .ok (.aload_n 0, 1) := by decide +kernel
theorem dX12_convert_42 : decode cX12_convert 42 = .ok (.iload_n 1, 1) := by decide +kernel
theorem dX12_convert_43 : decode cX12_convert 43 = .ok (.invokevirtual 359, 3) := by decide +kernel
theorem dX12_convert_46 : decode cX12_convert 46 = .ok (.istore_n 3, 1) := by decide +kernel
theorem dX12_convert_47 : decode cX12_convert 47 = .ok (.aload_n 0, 1) := by decide +kernel
theorem dX12_convert_48 : decode cX12_convert 48 = .ok (.iload_n 1, 1) := by decide +kernel
theorem dX12_convert_49 : decode cX12_convert 49 = .ok (.iconst 2, 1) := by decide +kernel
theorem dX12_convert_50 : decode cX12_convert 50 = .ok (.iload_n 3, 1) := by decide +kernel
theorem dX12_convert_51 : decode cX12_convert 51 = .ok (.i2l, 1) := by decide +kernel
theorem dX12_convert_52 : decode cX12_convert 52 = .ok (.dconst 0, 1) := by decide +kernel
theorem dX12_convert_53 : decode cX12_convert 53 = .ok (.invokevirtual 314, 3) := by decide +kernel
theorem dX12_convert_56 : decode cX12_convert 56 = .ok (.goto 28, 3) := by decide +kernel
theorem dX12_convert_59 : decode cX12_convert 59 = .ok (.aload_n 0, 1) := by decide +kernel
theorem dX12_convert_60 : decode cX12_convert 60 = .ok (.getfield 111, 3) := by decide +kernel
theorem dX12_convert_63 : decode cX12_convert 63 = .ok (.iload_n 1, 1) := by decide +kernel
theorem dX12_convert_64 : decode cX12_convert 64 = .ok (.iaload, 1) := by decide +kernel
theorem dX12_convert_65 : decode cX12_convert 65 = .ok (.iconst 3, 1) := by decide +kernel
theorem dX12_convert_66 : decode cX12_convert 66 = .ok (.if_icmp .eq 18, 3) := by decide +kernel
theorem dX12_convert_69 : decode cX12_convert 69 = .ok (.aload_n 0, 1) := by decide +kernel
theorem dX12_convert_70 : decode cX12_convert 70 = .ok (.iload_n 1, 1) := by decide +kernel
theorem dX12_convert_71 : decode cX12_convert 71 = .ok (.invokevirtual 359, 3) := by decide +kernel
theorem dX12_convert_74 : decode cX12_convert 74 = .ok (.i2d, 1) := by decide +kernel
theorem dX12_convert_75 : decode cX12_convert 75 = .ok (.dstore_n 3, 1) := by decide +kernel
theorem dX12_convert_76 : decode cX12_convert 76 = .ok (.aload_n 0, 1) := by decide +kernel
theorem dX12_convert_77 : decode cX12_convert 77 = .ok (.iload_n 1, 1) := by decide +kernel
theorem dX12_convert_78 : decode cX12_convert 78 = .ok (.iconst 3, 1) := by decide +kernel
theorem dX12_convert_79 : decode cX12_convert 79 = .ok (.lconst 0, 1) := by decide +kernel
theorem dX12_convert_80 : decode cX12_convert 80 = .ok (.dload_n 3, 1) := by decide +kernel
theorem dX12_convert_81 : decode cX12_convert 81 = .ok (.invokevirtual 314, 3) := by decide +kernel
theorem dX12_convert_84 : decode cX12_convert 84 = .ok (.return_, 1) := by decide +kernel
theorem dX12_steps_0 : decode cX12_steps 0 = .ok (.iconst 0, 1) := by decide +kernel
theorem dX12_steps_1 : decode cX12_steps 1 = .ok (.istore_n 3, 1) := by decide +kernel
theorem dX12_steps_2 : decode cX12_steps 2 = .ok (.iload_n 1, 1) := by decide +kernel
theorem dX12_steps_3 : decode cX12_steps 3 = .ok (.istore 4, 2) := by decide +kernel
theorem dX12_steps_5 : decode cX12_steps 5 = .ok (.iload 4, 2) := by decide +kernel
theorem dX12_steps_7 : decode cX12_steps 7 = .ok (.ifCond .lt 24, 3) := by decide +kernel
theorem dX12_steps_10 : decode cX12_steps 10 = .ok (.iload 4, 2) := by decide +kernel
theorem dX12_steps_12 : decode cX12_steps 12 = .ok (.iload_n 2, 1) := by decide +kernel
theorem dX12_steps_13 : decode cX12_steps 13 = .ok (.if_icmp .eq 18, 3) := by decide +kernel
theorem dX12_steps_16 : decode cX12_steps 16 = .ok (.aload_n 0, 1) := by decide +kernel
theorem dX12_steps_17 : decode cX12_steps 17 = .ok (.getfield 72, 3) := by decide +kernel
theorem dX12_steps_20 : decode cX12_steps 20 = .ok (.iload 4, 2) := by decide +kernel
theorem dX12_steps_22 : decode cX12_steps 22 = .ok (.iaload, 1) := by decide +kernel
theorem dX12_steps_23 : decode cX12_steps 23 = .ok (.istore 4, 2) := by decide +kernel
theorem dX12_steps_25 : decode cX12_steps 25 = .ok (.iinc 3 1, 3) := by decide +kernel
theorem dX12_steps_28 : decode cX12_steps 28 = .ok (.goto (-23), 3) := by decide +kernel
theorem dX12_steps_31 : decode cX12_steps 31 = .ok (.iload 4, 2) := by decide +kernel
theorem dX12_steps_33 : decode cX12_steps 33 = .ok (.ifCond .ge 7, 3) := by decide +kernel
theorem dX12_steps_36 : decode cX12_steps 36 = .ok (.iconst (-1), 1) := by decide +kernel
theorem dX12_steps_37 : decode cX12_steps 37 = .ok (.goto 4, 3) := by decide +kernel
theorem dX12_steps_40 : decode cX12_steps 40 = .ok (.iload_n 3, 1) := by decide +kernel
theorem dX12_steps_41 : decode cX12_steps 41 = .ok (.ireturn, 1) := by decide +kernel
theorem dX12_fitsType_0 : decode cX12_fitsType 0 = .ok (.iload_n 2, 1) := by decide +kernel
theorem dX12_fitsType_1 : decode cX12_fitsType 1 = .ok (.iconst 5, 1) := by decide +kernel
theorem dX12_fitsType_2 : decode cX12_fitsType 2 = .ok (.if_icmp .eq 13, 3) := by decide +kernel
theorem dX12_fitsType_5 : decode cX12_fitsType 5 = .ok (.aload_n 0, 1) := by decide +kernel
theorem dX12_fitsType_6 : decode cX12_fitsType 6 = .ok (.getfield 111, 3) := by decide +kernel
theorem dX12_fitsType_9 : decode cX12_fitsType 9 = .ok (.iload_n 1, 1) := by decide +kernel
theorem dX12_fitsType_10 : decode cX12_fitsType 10 = .ok (.iaload, 1) := by decide +kernel
theorem dX12_fitsType_11 : decode cX12_fitsType 11 = .ok (.iload_n 2, 1) := by decide +kernel
theorem dX12_fitsType_12 : decode cX12_fitsType 12 = .ok (.if_icmp .ne 5, 3) := by decide +kernel
theorem dX12_fitsType_15 : decode cX12_fitsType 15 = .ok (.iconst 1, 1) := by decide +kernel
theorem dX12_fitsType_16 : decode cX12_fitsType 16 = .ok (.ireturn, 1) := by decide +kernel
theorem dX12_fitsType_17 : decode cX12_fitsType 17 = .ok (.aload_n 0, 1) := by decide +kernel
theorem dX12_fitsType_18 : decode cX12_fitsType 18 = .ok (.getfield 111, 3) := by decide +kernel
theorem dX12_fitsType_21 : decode cX12_fitsType 21 = .ok (.iload_n 1, 1) := by decide +kernel
theorem dX12_fitsType_22 : decode cX12_fitsType 22 = .ok (.iaload, 1) := by decide +kernel
theorem dX12_fitsType_23 : decode cX12_fitsType 23 = .ok (.ifCond .ne 20, 3) := by decide +kernel
theorem dX12_fitsType_26 : decode cX12_fitsType 26 = .ok (.iload_n 2, 1) := by decide +kernel
theorem dX12_fitsType_27 : decode cX12_fitsType 27 = .ok (.iconst 4, 1) := by decide +kernel
theorem dX12_fitsType_28 : decode cX12_fitsType 28 = .ok (.if_icmp .eq 9, 3) := by decide +kernel
theorem dX12_fitsType_31 : decode cX12_fitsType 31 = .ok (.iload_n 2, 1) := by decide +kernel
theorem dX12_fitsType_32 : decode cX12_fitsType 32 = .ok (.bipush 8, 2) := by decide +kernel
theorem dX12_fitsType_34 : decode cX12_fitsType 34 = .ok (.if_icmp .lt 7, 3) := by decide +kernel
theorem dX12_fitsType_37 : decode cX12_fitsType 37 = .ok (.iconst 1, 1) := by decide +kernel
theorem dX12_fitsType_38 : decode cX12_fitsType 38 = .ok (.goto 4, 3) := by decide +kernel
theorem dX12_fitsType_41 : decode cX12_fitsType 41 = .ok (.iconst 0, 1) := by decide +kernel
theorem dX12_fitsType_42 : decode cX12_fitsType 42 = .ok (.ireturn, 1) := by decide +kernel
theorem dX12_fitsType_43 : decode cX12_fitsType 43 = .ok (.aload_n 0, 1) := by decide +kernel
theorem dX12_fitsType_44 : decode cX12_fitsType 44 = .ok (.getfield 111, 3) := by decide +kernel
theorem dX12_fitsType_47 : decode cX12_fitsType 47 = .ok (.iload_n 1, 1) := by decide +kernel
theorem dX12_fitsType_48 : decode cX12_fitsType 48 = .ok (.iaload, 1) := by decide +kernel
theorem dX12_fitsType_49 : decode cX12_fitsType 49 = .ok (.bipush 8, 2) := by decide +kernel
theorem dX12_fitsType_51 : decode cX12_fitsType 51 = .ok (.if_icmp .lt 33, 3) := by decide +kernel
theorem dX12_fitsType_54 : decode cX12_fitsType 54 = .ok (.iload_n 2, 1) := by decide +kernel
theorem dX12_fitsType_55 : decode cX12_fitsType 55 = .ok (.bipush 8, 2) := by decide +kernel
theorem dX12_fitsType_57 : decode cX12_fitsType 57 = .ok (.if_icmp .lt 27, 3) := by decide +kernel
theorem dX12_fitsType_60 : decode cX12_fitsType 60 = .ok (.aload_n 0, 1) := by decide +kernel
theorem dX12_fitsType_61 : decode cX12_fitsType 61 = .ok (.aload_n 0, 1) := by decide +kernel
theorem dX12_fitsType_62 : decode cX12_fitsType 62 = .ok (.getfield 111, 3) := by decide +kernel
theorem dX12_fitsType_65 : decode cX12_fitsType 65 = .ok (.iload_n 1, 1) := by decide +kernel
theorem dX12_fitsType_66 : decode cX12_fitsType 66 = .ok (.iaload, 1) := by decide +kernel
theorem dX12_fitsType_67 : decode cX12_fitsType 67 = .ok (.bipush 8, 2) := by decide +kernel
theorem dX12_fitsType_69 : decode cX12_fitsType 69 = .ok (.isub, 1) := by decide +kernel
theorem dX12_fitsType_70 : decode cX12_fitsType 70 = .ok (.iload_n 2, 1) := by decide +kernel
theorem dX12_fitsType_71 : decode cX12_fitsType 71 = .ok (.bipush 8, 2) := by decide +kernel
theorem dX12_fitsType_73 : decode cX12_fitsType 73 = .ok (.isub, 1) := by decide +kernel
theorem dX12_fitsType_74 : decode cX12_fitsType 74 = .ok (.invokevirtual 362, 3) := by decide +kernel
theorem dX12_fitsType_77 : decode cX12_fitsType 77 = .ok (.ifCond .le 7, 3) := by decide +kernel
theorem dX12_fitsType_80 : decode cX12_fitsType 80 = .ok (.iconst 1, 1) := by decide +kernel
theorem dX12_fitsType_81 : decode cX12_fitsType 81 = .ok (.goto 4, 3) := by decide +kernel
theorem dX12_fitsType_84 : decode cX12_fitsType 84 = .ok (.iconst 0, 1) := by decide +kernel
theorem dX12_fitsType_85 : decode cX12_fitsType 85 = .ok (.ireturn, 1) := by decide +kernel
theorem dX12_convertible_0 : decode cX12_convertible 0 = .ok (.iload_n 2, 1) := by decide +kernel
theorem dX12_convertible_1 : decode cX12_convertible 1 = .ok (.iconst 4, 1) := by decide +kernel
theorem dX12_convertible_2 : decode cX12_convertible 2 = .ok (.if_icmp .le 5, 3) := by decide +kernel
theorem dX12_convertible_5 : decode cX12_convertible 5 = .ok (.iconst 0, 1) := by decide +kernel
theorem dX12_convertible_6 : decode cX12_convertible 6 = .ok (.ireturn, 1) := by decide +kernel
theorem dX12_convertible_7 : decode cX12_convertible 7 = .ok (.aload_n 0, 1) := by decide +kernel
theorem dX12_convertible_8 : decode cX12_convertible 8 = .ok (.getfield 102, 3) := by decide +kernel
theorem dX12_convertible_11 : decode cX12_convertible 11 = .ok (.bipush 25, 2) := by decide +kernel
theorem dX12_convertible_13 : decode cX12_convertible 13 = .ok (.iload_n 2, 1) := by decide +kernel
theorem dX12_convertible_14 : decode cX12_convertible 14 = .ok (.iadd, 1) := by decide +kernel
theorem dX12_convertible_15 : decode cX12_convertible 15 = .ok (.baload, 1) := by decide +kernel
theorem dX12_convertible_16 : decode cX12_convertible 16 = .ok (.istore_n 3, 1) := by decide +kernel
theorem dX12_convertible_17 : decode cX12_convertible 17 = .ok (.aload_n 0, 1) := by decide +kernel
theorem dX12_convertible_18 : decode cX12_convertible 18 = .ok (.getfield 111, 3) := by decide +kernel
theorem dX12_convertible_21 : decode cX12_convertible 21 = .ok (.iload_n 1, 1) := by decide +kernel
theorem dX12_convertible_22 : decode cX12_convertible 22 = .ok (.iaload, 1) := by decide +kernel
theorem dX12_convertible_23 : decode cX12_convertible 23 = .ok (.bipush 8, 2) := by decide +kernel
theorem dX12_convertible_25 : decode cX12_convertible 25 = .ok (.if_icmp .lt 60, 3) := by decide +kernel
theorem dX12_convertible_28 : decode cX12_convertible 28 = .ok (.aload_n 0, 1) := by decide +kernel
theorem dX12_convertible_29 : decode cX12_convertible 29 = .ok (.getfield 111, 3) := by decide +kernel
theorem dX12_convertible_32 : decode cX12_convertible 32 = .ok (.iload_n 1, 1) := by decide +kernel
theorem dX12_convertible_33 : decode cX12_convertible 33 = .ok (.iaload, 1) := by decide +kernel
theorem dX12_convertible_34 : decode cX12_convertible 34 = .ok (.bipush 8, 2) := by decide +kernel
theorem dX12_convertible_36 : decode cX12_convertible 36 = .ok (.isub, 1) := by decide +kernel
theorem dX12_convertible_37 : decode cX12_convertible 37 = .ok (.istore 4, 2) := by decide +kernel
theorem dX12_convertible_39 : decode cX12_convertible 39 = .ok (.iload 4, 2) := by decide +kernel
theorem dX12_convertible_41 : decode cX12_convertible 41 = .ok (.ifCond .lt 42, 3) := by decide +kernel
theorem dX12_convertible_44 : decode cX12_convertible 44 = .ok (.iload_n 3, 1) := by decide +kernel
theorem dX12_convertible_45 : decode cX12_convertible 45 = .ok (.ifCond .ne 20, 3) := by decide +kernel
theorem dX12_convertible_48 : decode cX12_convertible 48 = .ok (.aload_n 0, 1) := by decide +kernel
theorem dX12_convertible_49 : decode cX12_convertible 49 = .ok (.getfield 102, 3) := by decide +kernel
theorem dX12_convertible_52 : decode cX12_convertible 52 = .ok (.iconst 5, 1) := by decide +kernel
theorem dX12_convertible_53 : decode cX12_convertible 53 = .ok (.bipush 8, 2) := by decide +kernel
theorem dX12_convertible_55 : decode cX12_convertible 55 = .ok (.iload 4, 2) := by decide +kernel
theorem dX12_convertible_57 : decode cX12_convertible 57 = .ok (.iadd, 1) := by decide +kernel
theorem dX12_convertible_58 : decode cX12_convertible 58 = .ok (.imul, 1) := by decide +kernel
theorem dX12_convertible_59 : decode cX12_convertible 59 = .ok (.iload_n 2, 1) := by decide +kernel
theorem dX12_convertible_60 : decode cX12_convertible 60 = .ok (.iadd, 1) := by decide +kernel
theorem dX12_convertible_61 : decode cX12_convertible 61 = .ok (.baload, 1) := by decide +kernel
theorem dX12_convertible_62 : decode cX12_convertible 62 = .ok (.ifCond .eq 7, 3) := by decide +kernel
theorem dX12_convertible_65 : decode cX12_convertible 65 = .ok (.iconst 1, 1) := by decide +kernel
theorem dX12_convertible_66 : decode cX12_convertible 66 = .ok (.goto 4, 3) := by decide +kernel
theorem dX12_convertible_69 : decode cX12_convertible 69 = .ok (.iconst 0, 1) := by decide +kernel
theorem dX12_convertible_70 : decode cX12_convertible 70 = .ok (.istore_n 3, 1) := by decide +kernel
theorem dX12_convertible_71 : decode cX12_convertible 71 = .ok (.aload_n 0, 1) := by decide +kernel
theorem dX12_convertible_72 : decode cX12_convertible 72 = .ok (.getfield 72, 3) := by decide +kernel
theorem dX12_convertible_75 : decode cX12_convertible 75 = .ok (.iload 4, 2) := by decide +kernel
theorem dX12_convertible_77 : decode cX12_convertible 77 = .ok (.iaload, 1) := by decide +kernel
theorem dX12_convertible_78 : decode cX12_convertible 78 = .ok (.istore 4, 2) := by decide +kernel
theorem dX12_convertible_80 : decode cX12_convertible 80 = .ok (.goto (-41), 3) := by decide +kernel
theorem dX12_convertible_83 : decode cX12_convertible 83 = .ok (.iload_n 3, 1) := by decide +kernel
theorem dX12_convertible_84 : decode cX12_convertible 84 = .ok (.ireturn, 1) := by decide +kernel
theorem dX12_convertible_85 : decode cX12_convertible 85 = .ok (.iload_n 3, 1) := by decide +kernel
theorem dX12_convertible_86 : decode cX12_convertible 86 = .ok (.ifCond .ne 30, 3) := by decide +kernel
theorem dX12_convertible_89 : decode cX12_convertible 89 = .ok (.aload_n 0, 1) := by decide +kernel
theorem dX12_convertible_90 : decode cX12_convertible 90 = .ok (.getfield 111, 3) := by decide +kernel
theorem dX12_convertible_93 : decode cX12_convertible 93 = .ok (.iload_n 1, 1) := by decide +kernel
theorem dX12_convertible_94 : decode cX12_convertible 94 = .ok (.iaload, 1) := by decide +kernel
theorem dX12_convertible_95 : decode cX12_convertible 95 = .ok (.ifCond .eq 25, 3) := by decide +kernel
theorem dX12_convertible_98 : decode cX12_convertible 98 = .ok (.aload_n 0, 1) := by decide +kernel
theorem dX12_convertible_99 : decode cX12_convertible 99 = .ok (.getfield 102, 3) := by decide +kernel
theorem dX12_convertible_102 : decode cX12_convertible 102 = .ok (.iconst 5, 1) := by decide +kernel
theorem dX12_convertible_103 : decode cX12_convertible 103 = .ok (.aload_n 0, 1) := by decide +kernel
theorem dX12_convertible_104 : decode cX12_convertible 104 = .ok (.getfield 111, 3) := by decide +kernel
theorem dX12_convertible_107 : decode cX12_convertible 107 = .ok (.iload_n 1, 1) := by decide +kernel
theorem dX12_convertible_108 : decode cX12_convertible 108 = .ok (.iaload, 1) := by decide +kernel
theorem dX12_convertible_109 : decode cX12_convertible 109 = .ok (.imul, 1) := by decide +kernel
theorem dX12_convertible_110 : decode cX12_convertible 110 = .ok (.iload_n 2, 1) := by decide +kernel
theorem dX12_convertible_111 : decode cX12_convertible 111 = .ok (.iadd, 1) := by decide +kernel
theorem dX12_convertible_112 : decode cX12_convertible 112 = .ok (.baload, 1) := by decide +kernel
theorem dX12_convertible_113 : decode cX12_convertible 113 = .ok (.ifCond .eq 7, 3) := by decide +kernel
theorem dX12_convertible_116 : decode cX12_convertible 116 = .ok (.iconst 1, 1) := by decide +kernel
theorem dX12_convertible_117 : decode cX12_convertible 117 = .ok (.goto 4, 3) := by decide +kernel
theorem dX12_convertible_120 : decode cX12_convertible 120 = .ok (.iconst 0, 1) := by decide +kernel
theorem dX12_convertible_121 : decode cX12_convertible 121 = .ok (.ireturn, 1) := by decide +kernel
theorem dX12_fit_0 : decode cX12_fit 0 = .ok (.aload_n 0, 1) := by decide +kernel
theorem dX12_fit_1 : decode cX12_fit 1 = .ok (.iload_n 1, 1) := by decide +kernel
theorem dX12_fit_2 : decode cX12_fit 2 = .ok (.iload_n 2, 1) := by decide +kernel
theorem dX12_fit_3 : decode cX12_fit 3 = .ok (.invokevirtual 365, 3) := by decide +kernel
theorem dX12_fit_6 : decode cX12_fit 6 = .ok (.ifCond .eq 4, 3) := by decide +kernel
theorem dX12_fit_9 : decode cX12_fit 9 = .ok (.return_, 1) := by decide +kernel
theorem dX12_fit_10 : decode cX12_fit 10 = .ok (.aload_n 0, 1) := by decide +kernel
theorem dX12_fit_11 : decode cX12_fit 11 = .ok (.iload_n 1, 1) := by decide +kernel
theorem dX12_fit_12 : decode cX12_fit 12 = .ok (.iload_n 2, 1) := by decide +kernel
theorem dX12_fit_13 : decode cX12_fit 13 = .ok (.invokevirtual 368, 3) := by decide +kernel
theorem dX12_fit_16 : decode cX12_fit 16 = .ok (.ifCond .eq 12, 3) := by decide +kernel
theorem dX12_fit_19 : decode cX12_fit 19 = .ok (.aload_n 0, 1) := by decide +kernel
theorem dX12_fit_20 : decode cX12_fit 20 = .ok (.iload_n 1, 1) := by decide +kernel
theorem dX12_fit_21 : decode cX12_fit 21 = .ok (.iload_n 2, 1) := by decide +kernel
theorem dX12_fit_22 : decode cX12_fit 22 = .ok (.invokevirtual 371, 3) := by decide +kernel
theorem dX12_fit_25 : decode cX12_fit 25 = .ok (.goto 9, 3) := by decide +kernel
theorem dX12_fit_28 : decode cX12_fit 28 = .ok (.aload_n 0, 1) := by decide +kernel
theorem dX12_fit_29 : decode cX12_fit 29 = .ok (.bipush 6, 2) := by decide +kernel
theorem dX12_fit_31 : decode cX12_fit 31 = .ok (.putfield 340, 3) := by decide +kernel
theorem dX12_fit_34 : decode cX12_fit 34 = .ok (.return_, 1) := by decide +kernel
theorem dX12_isNumber_0 : decode cX12_isNumber 0 = .ok (.aload_n 0, 1) := by decide +kernel
theorem dX12_isNumber_1 : decode cX12_isNumber 1 = .ok (.getfield 111, 3) := by decide +kernel
theorem dX12_isNumber_4 : decode cX12_isNumber 4 = .ok (.iload_n 1, 1) := by decide +kernel
theorem dX12_isNumber_5 : decode cX12_isNumber 5 = .ok (.iaload, 1) := by decide +kernel
theorem dX12_isNumber_6 : decode cX12_isNumber 6 = .ok (.iconst 2, 1) := by decide +kernel
theorem dX12_isNumber_7 : decode cX12_isNumber 7 = .ok (.if_icmp .eq 13, 3) := by decide +kernel
theorem dX12_isNumber_10 : decode cX12_isNumber 10 = .ok (.aload_n 0, 1) := by decide +kernel
theorem dX12_isNumber_11 : decode cX12_isNumber 11 = .ok (.getfield 111, 3) := by decide +kernel
theorem dX12_isNumber_14 : decode cX12_isNumber 14 = .ok (.iload_n 1, 1) := by decide +kernel
theorem dX12_isNumber_15 : decode cX12_isNumber 15 = .ok (.iaload, 1) := by decide +kernel
theorem dX12_isNumber_16 : decode cX12_isNumber 16 = .ok (.iconst 3, 1) := by decide +kernel
theorem dX12_isNumber_17 : decode cX12_isNumber 17 = .ok (.if_icmp .ne 7, 3) := by decide +kernel
theorem dX12_isNumber_20 : decode cX12_isNumber 20 = .ok (.iconst 1, 1) := by decide +kernel
theorem dX12_isNumber_21 : decode cX12_isNumber 21 = .ok (.goto 4, 3) := by decide +kernel
theorem dX12_isNumber_24 : decode cX12_isNumber 24 = .ok (.iconst 0, 1) := by decide +kernel
theorem dX12_isNumber_25 : decode cX12_isNumber 25 = .ok (.ireturn, 1) := by decide +kernel
theorem dX12_realOf_0 : decode cX12_realOf 0 = .ok (.aload_n 0, 1) := by decide +kernel
theorem dX12_realOf_1 : decode cX12_realOf 1 = .ok (.getfield 111, 3) := by decide +kernel
theorem dX12_realOf_4 : decode cX12_realOf 4 = .ok (.iload_n 1, 1) := by decide +kernel
theorem dX12_realOf_5 : decode cX12_realOf 5 = .ok (.iaload, 1) := by decide +kernel
theorem dX12_realOf_6 : decode cX12_realOf 6 = .ok (.iconst 3, 1) := by decide +kernel
theorem dX12_realOf_7 : decode cX12_realOf 7 = .ok (.if_icmp .ne 12, 3) := by decide +kernel
theorem dX12_realOf_10 : decode cX12_realOf 10 = .ok (.aload_n 0, 1) := by decide +kernel
theorem dX12_realOf_11 : decode cX12_realOf 11 = .ok (.getfield 120, 3) := by decide +kernel
theorem dX12_realOf_14 : decode cX12_realOf 14 = .ok (.iload_n 1, 1) := by decide +kernel
theorem dX12_realOf_15 : decode cX12_realOf 15 = .ok (.daload, 1) := by decide +kernel
theorem dX12_realOf_16 : decode cX12_realOf 16 = .ok (.goto 11, 3) := by decide +kernel
theorem dX12_realOf_19 : decode cX12_realOf 19 = .ok (.aload_n 0, 1) := by decide +kernel
theorem dX12_realOf_20 : decode cX12_realOf 20 = .ok (.getfield 114, 3) := by decide +kernel
theorem dX12_realOf_23 : decode cX12_realOf 23 = .ok (.iload_n 1, 1) := by decide +kernel
theorem dX12_realOf_24 : decode cX12_realOf 24 = .ok (.laload, 1) := by decide +kernel
theorem dX12_realOf_25 : decode cX12_realOf 25 = .ok (.l2i, 1) := by decide +kernel
theorem dX12_realOf_26 : decode cX12_realOf 26 = .ok (.i2d, 1) := by decide +kernel
theorem dX12_realOf_27 : decode cX12_realOf 27 = .ok (.dreturn, 1) := by decide +kernel
theorem dX12_joins_0 : decode cX12_joins 0 = .ok (.aload_n 0, 1) := by decide +kernel
theorem dX12_joins_1 : decode cX12_joins 1 = .ok (.getfield 111, 3) := by decide +kernel
theorem dX12_joins_4 : decode cX12_joins 4 = .ok (.iload_n 1, 1) := by decide +kernel
theorem dX12_joins_5 : decode cX12_joins 5 = .ok (.iaload, 1) := by decide +kernel
theorem dX12_joins_6 : decode cX12_joins 6 = .ok (.iconst 4, 1) := by decide +kernel
theorem dX12_joins_7 : decode cX12_joins 7 = .ok (.if_icmp .eq 32, 3) := by decide +kernel
theorem dX12_joins_10 : decode cX12_joins 10 = .ok (.aload_n 0, 1) := by decide +kernel
theorem dX12_joins_11 : decode cX12_joins 11 = .ok (.getfield 111, 3) := by decide +kernel
theorem dX12_joins_14 : decode cX12_joins 14 = .ok (.iload_n 1, 1) := by decide +kernel
theorem dX12_joins_15 : decode cX12_joins 15 = .ok (.iaload, 1) := by decide +kernel
theorem dX12_joins_16 : decode cX12_joins 16 = .ok (.iconst 2, 1) := by decide +kernel
theorem dX12_joins_17 : decode cX12_joins 17 = .ok (.if_icmp .eq 22, 3) := by decide +kernel
theorem dX12_joins_20 : decode cX12_joins 20 = .ok (.aload_n 0, 1) := by decide +kernel
theorem dX12_joins_21 : decode cX12_joins 21 = .ok (.getfield 111, 3) := by decide +kernel
theorem dX12_joins_24 : decode cX12_joins 24 = .ok (.iload_n 1, 1) := by decide +kernel
theorem dX12_joins_25 : decode cX12_joins 25 = .ok (.iaload, 1) := by decide +kernel
theorem dX12_joins_26 : decode cX12_joins 26 = .ok (.iconst 1, 1) := by decide +kernel
theorem dX12_joins_27 : decode cX12_joins 27 = .ok (.if_icmp .eq 12, 3) := by decide +kernel
theorem dX12_joins_30 : decode cX12_joins 30 = .ok (.aload_n 0, 1) := by decide +kernel
theorem dX12_joins_31 : decode cX12_joins 31 = .ok (.getfield 111, 3) := by decide +kernel
theorem dX12_joins_34 : decode cX12_joins 34 = .ok (.iload_n 1, 1) := by decide +kernel
theorem dX12_joins_35 : decode cX12_joins 35 = .ok (.iaload, 1) := by decide +kernel
theorem dX12_joins_36 : decode cX12_joins 36 = .ok (.ifCond .ne 7, 3) := by decide +kernel
theorem dX12_joins_39 : decode cX12_joins 39 = .ok (.iconst 1, 1) := by decide +kernel
theorem dX12_joins_40 : decode cX12_joins 40 = .ok (.goto 4, 3) := by decide +kernel
theorem dX12_joins_43 : decode cX12_joins 43 = .ok (.iconst 0, 1) := by decide +kernel
theorem dX12_joins_44 : decode cX12_joins 44 = .ok (.ireturn, 1) := by decide +kernel
theorem dX12_reals_0 : decode cX12_reals 0 = .ok (.aload_n 0, 1) := by decide +kernel
theorem dX12_reals_1 : decode cX12_reals 1 = .ok (.iload_n 1, 1) := by decide +kernel
theorem dX12_reals_2 : decode cX12_reals 2 = .ok (.invokevirtual 374, 3) := by decide +kernel
theorem dX12_reals_5 : decode cX12_reals 5 = .ok (.dstore 4, 2) := by decide +kernel
theorem dX12_reals_7 : decode cX12_reals 7 = .ok (.aload_n 0, 1) := by decide +kernel
theorem dX12_reals_8 : decode cX12_reals 8 = .ok (.iload_n 2, 1) := by decide +kernel
theorem dX12_reals_9 : decode cX12_reals 9 = .ok (.invokevirtual 374, 3) := by decide +kernel
theorem dX12_reals_12 : decode cX12_reals 12 = .ok (.dstore 6, 2) := by decide +kernel
theorem dX12_reals_14 : decode cX12_reals 14 = .ok (.iload_n 3, 1) := by decide +kernel
theorem dX12_reals_15 : decode cX12_reals 15 = .ok (.bipush 19, 2) := by decide +kernel
theorem dX12_reals_17 : decode cX12_reals 17 = .ok (.if_icmp .ne 16, 3) := by decide +kernel
theorem dX12_reals_20 : decode cX12_reals 20 = .ok (.dload 6, 2) := by decide +kernel
theorem dX12_reals_22 : decode cX12_reals 22 = .ok (.dconst 0, 1) := by decide +kernel
theorem dX12_reals_23 : decode cX12_reals 23 = .ok (.dcmp .l, 1) := by decide +kernel
theorem dX12_reals_24 : decode cX12_reals 24 = .ok (.ifCond .ne 9, 3) := by decide +kernel
theorem dX12_reals_27 : decode cX12_reals 27 = .ok (.aload_n 0, 1) := by decide +kernel
theorem dX12_reals_28 : decode cX12_reals 28 = .ok (.iconst 2, 1) := by decide +kernel
theorem dX12_reals_29 : decode cX12_reals 29 = .ok (.putfield 340, 3) := by decide +kernel
theorem dX12_reals_32 : decode cX12_reals 32 = .ok (.return_, 1) := by decide +kernel
theorem dX12_reals_33 : decode cX12_reals 33 = .ok (.iload_n 3, 1) := by decide +kernel
theorem dX12_reals_34 : decode cX12_reals 34 = .ok (.bipush 16, 2) := by decide +kernel
theorem dX12_reals_36 : decode cX12_reals 36 = .ok (.if_icmp .ne 11, 3) := by decide +kernel
theorem dX12_reals_39 : decode cX12_reals 39 = .ok (.dload 4, 2) := by decide +kernel
theorem dX12_reals_41 : decode cX12_reals 41 = .ok (.dload 6, 2) := by decide +kernel
theorem dX12_reals_43 : decode cX12_reals 43 = .ok (.dadd, 1) := by decide +kernel
theorem dX12_reals_44 : decode cX12_reals 44 = .ok (.goto 36, 3) := by decide +kernel
theorem dX12_reals_47 : decode cX12_reals 47 = .ok (.iload_n 3, 1) := by decide +kernel
theorem dX12_reals_48 : decode cX12_reals 48 = .ok (.bipush 17, 2) := by decide +kernel
theorem dX12_reals_50 : decode cX12_reals 50 = .ok (.if_icmp .ne 11, 3) := by decide +kernel
theorem dX12_reals_53 : decode cX12_reals 53 = .ok (.dload 4, 2) := by decide +kernel
theorem dX12_reals_55 : decode cX12_reals 55 = .ok (.dload 6, 2) := by decide +kernel
theorem dX12_reals_57 : decode cX12_reals 57 = .ok (.dsub, 1) := by decide +kernel
theorem dX12_reals_58 : decode cX12_reals 58 = .ok (.goto 22, 3) := by decide +kernel
theorem dX12_reals_61 : decode cX12_reals 61 = .ok (.iload_n 3, 1) := by decide +kernel
theorem dX12_reals_62 : decode cX12_reals 62 = .ok (.bipush 18, 2) := by decide +kernel
theorem dX12_reals_64 : decode cX12_reals 64 = .ok (.if_icmp .ne 11, 3) := by decide +kernel
theorem dX12_reals_67 : decode cX12_reals 67 = .ok (.dload 4, 2) := by decide +kernel
theorem dX12_reals_69 : decode cX12_reals 69 = .ok (.dload 6, 2) := by decide +kernel
theorem dX12_reals_71 : decode cX12_reals 71 = .ok (.dmul, 1) := by decide +kernel
theorem dX12_reals_72 : decode cX12_reals 72 = .ok (.goto 8, 3) := by decide +kernel
theorem dX12_reals_75 : decode cX12_reals 75 = .ok (.dload 4, 2) := by decide +kernel
theorem dX12_reals_77 : decode cX12_reals 77 = .ok (.dload 6, 2) := by decide +kernel
theorem dX12_reals_79 : decode cX12_reals 79 = .ok (.ddiv, 1) := by decide +kernel
theorem dX12_reals_80 : decode cX12_reals 80 = .ok (.dstore 8, 2) := by decide +kernel
theorem dX12_reals_82 : decode cX12_reals 82 = .ok (.aload_n 0, 1) := by decide +kernel
theorem dX12_reals_83 : decode cX12_reals 83 = .ok (.dload 8, 2) := by decide +kernel
theorem dX12_reals_85 : decode cX12_reals 85 = .ok (.ldc2_w 378, 3) := by decide +kernel
theorem dX12_reals_88 : decode cX12_reals 88 = .ok (.dcmp .l, 1) := by decide +kernel
theorem dX12_reals_89 : decode cX12_reals 89 = .ok (.ifCond .gt 12, 3) := by decide +kernel
theorem dX12_reals_92 : decode cX12_reals 92 = .ok (.dload 8, 2) := by decide +kernel
theorem dX12_reals_94 : decode cX12_reals 94 = .ok (.ldc2_w 380, 3) := by decide +kernel
theorem dX12_reals_97 : decode cX12_reals 97 = .ok (.dcmp .g, 1) := by decide +kernel
theorem dX12_reals_98 : decode cX12_reals 98 = .ok (.ifCond .ge 7, 3) := by decide +kernel
theorem dX12_reals_101 : decode cX12_reals 101 = .ok (.iconst 3, 1) := by decide +kernel
theorem dX12_reals_102 : decode cX12_reals 102 = .ok (.goto 7, 3) := by decide +kernel
theorem dX12_reals_105 : decode cX12_reals 105 = .ok (.aload_n 0, 1) := by decide +kernel
theorem dX12_reals_106 : decode cX12_reals 106 = .ok (.getfield 340, 3) := by decide +kernel
theorem dX12_reals_109 : decode cX12_reals 109 = .ok (.putfield 340, 3) := by decide +kernel
theorem dX12_reals_112 : decode cX12_reals 112 = .ok (.aload_n 0, 1) := by decide +kernel
theorem dX12_reals_113 : decode cX12_reals 113 = .ok (.iload_n 1, 1) := by decide +kernel
theorem dX12_reals_114 : decode cX12_reals 114 = .ok (.iconst 3, 1) := by decide +kernel
theorem dX12_reals_115 : decode cX12_reals 115 = .ok (.lconst 0, 1) := by decide +kernel
theorem dX12_reals_116 : decode cX12_reals 116 = .ok (.dload 8, 2) := by decide +kernel
theorem dX12_reals_118 : decode cX12_reals 118 = .ok (.invokevirtual 314, 3) := by decide +kernel
theorem dX12_reals_121 : decode cX12_reals 121 = .ok (.return_, 1) := by decide +kernel
theorem dX12_ints_0 : decode cX12_ints 0 = .ok (.aload_n 0, 1) := by decide +kernel
theorem dX12_ints_1 : decode cX12_ints 1 = .ok (.getfield 114, 3) := by decide +kernel
theorem dX12_ints_4 : decode cX12_ints 4 = .ok (.iload_n 1, 1) := by decide +kernel
theorem dX12_ints_5 : decode cX12_ints 5 = .ok (.laload, 1) := by decide +kernel
theorem dX12_ints_6 : decode cX12_ints 6 = .ok (.l2i, 1) := by decide +kernel
theorem dX12_ints_7 : decode cX12_ints 7 = .ok (.istore 4, 2) := by decide +kernel
theorem dX12_ints_9 : decode cX12_ints 9 = .ok (.aload_n 0, 1) := by decide +kernel
theorem dX12_ints_10 : decode cX12_ints 10 = .ok (.getfield 114, 3) := by decide +kernel
theorem dX12_ints_13 : decode cX12_ints 13 = .ok (.iload_n 2, 1) := by decide +kernel
theorem dX12_ints_14 : decode cX12_ints 14 = .ok (.laload, 1) := by decide +kernel
theorem dX12_ints_15 : decode cX12_ints 15 = .ok (.l2i, 1) := by decide +kernel
theorem dX12_ints_16 : decode cX12_ints 16 = .ok (.istore 5, 2) := by decide +kernel
theorem dX12_ints_18 : decode cX12_ints 18 = .ok (.iload_n 3, 1) := by decide +kernel
theorem dX12_ints_19 : decode cX12_ints 19 = .ok (.bipush 19, 2) := by decide +kernel
theorem dX12_ints_21 : decode cX12_ints 21 = .ok (.if_icmp .lt 14, 3) := by decide +kernel
theorem dX12_ints_24 : decode cX12_ints 24 = .ok (.iload 5, 2) := by decide +kernel
theorem dX12_ints_26 : decode cX12_ints 26 = .ok (.ifCond .ne 9, 3) := by decide +kernel
theorem dX12_ints_29 : decode cX12_ints 29 = .ok (.aload_n 0, 1) := by decide +kernel
theorem dX12_ints_30 : decode cX12_ints 30 = .ok (.iconst 2, 1) := by decide +kernel
theorem dX12_ints_31 : decode cX12_ints 31 = .ok (.putfield 340, 3) := by decide +kernel
theorem dX12_ints_34 : decode cX12_ints 34 = .ok (.return_, 1) := by decide +kernel
theorem dX12_ints_35 : decode cX12_ints 35 = .ok (.iload_n 3, 1) := by decide +kernel
theorem dX12_ints_36 : decode cX12_ints 36 = .ok (.bipush 16, 2) := by decide +kernel
theorem dX12_ints_38 : decode cX12_ints 38 = .ok (.if_icmp .ne 11, 3) := by decide +kernel
theorem dX12_ints_41 : decode cX12_ints 41 = .ok (.iload 4, 2) := by decide +kernel
theorem dX12_ints_43 : decode cX12_ints 43 = .ok (.iload 5, 2) := by decide +kernel
theorem dX12_ints_45 : decode cX12_ints 45 = .ok (.iadd, 1) := by decide +kernel
theorem dX12_ints_46 : decode cX12_ints 46 = .ok (.goto 50, 3) := by decide +kernel
theorem dX12_ints_49 : decode cX12_ints 49 = .ok (.iload_n 3, 1) := by decide +kernel
theorem dX12_ints_50 : decode cX12_ints 50 = .ok (.bipush 17, 2) := by decide +kernel
theorem dX12_ints_52 : decode cX12_ints 52 = .ok (.if_icmp .ne 11, 3) := by decide +kernel
theorem dX12_ints_55 : decode cX12_ints 55 = .ok (.iload 4, 2) := by decide +kernel
theorem dX12_ints_57 : decode cX12_ints 57 = .ok (.iload 5, 2) := by decide +kernel
theorem dX12_ints_59 : decode cX12_ints 59 = .ok (.isub, 1) := by decide +kernel
theorem dX12_ints_60 : decode cX12_ints 60 = .ok (.goto 36, 3) := by decide +kernel
theorem dX12_ints_63 : decode cX12_ints 63 = .ok (.iload_n 3, 1) := by decide +kernel
theorem dX12_ints_64 : decode cX12_ints 64 = .ok (.bipush 18, 2) := by decide +kernel
theorem dX12_ints_66 : decode cX12_ints 66 = .ok (.if_icmp .ne 11, 3) := by decide +kernel
theorem dX12_ints_69 : decode cX12_ints 69 = .ok (.iload 4, 2) := by decide +kernel
theorem dX12_ints_71 : decode cX12_ints 71 = .ok (.iload 5, 2) := by decide +kernel
theorem dX12_ints_73 : decode cX12_ints 73 = .ok (.imul, 1) := by decide +kernel
theorem dX12_ints_74 : decode cX12_ints 74 = .ok (.goto 22, 3) := by decide +kernel
theorem dX12_ints_77 : decode cX12_ints 77 = .ok (.iload_n 3, 1) := by decide +kernel
theorem dX12_ints_78 : decode cX12_ints 78 = .ok (.bipush 19, 2) := by decide +kernel
theorem dX12_ints_80 : decode cX12_ints 80 = .ok (.if_icmp .ne 11, 3) := by decide +kernel
theorem dX12_ints_83 : decode cX12_ints 83 = .ok (.iload 4, 2) := by decide +kernel
theorem dX12_ints_85 : decode cX12_ints 85 = .ok (.iload 5, 2) := by decide +kernel
theorem dX12_ints_87 : decode cX12_ints 87 = .ok (.idiv, 1) := by decide +kernel
theorem dX12_ints_88 : decode cX12_ints 88 = .ok (.goto 8, 3) := by decide +kernel
theorem dX12_ints_91 : decode cX12_ints 91 = .ok (.iload 4, 2) := by decide +kernel
theorem dX12_ints_93 : decode cX12_ints 93 = .ok (.iload 5, 2) := by decide +kernel
theorem dX12_ints_95 : decode cX12_ints 95 = .ok (.irem, 1) := by decide +kernel
theorem dX12_ints_96 : decode cX12_ints 96 = .ok (.istore 6, 2) := by decide +kernel
theorem dX12_ints_98 : decode cX12_ints 98 = .ok (.aload_n 0, 1) := by decide +kernel
theorem dX12_ints_99 : decode cX12_ints 99 = .ok (.iload_n 1, 1) := by decide +kernel
theorem dX12_ints_100 : decode cX12_ints 100 = .ok (.iconst 2, 1) := by decide +kernel
theorem dX12_ints_101 : decode cX12_ints 101 = .ok (.iload 6, 2) := by decide +kernel
theorem dX12_ints_103 : decode cX12_ints 103 = .ok (.i2l, 1) := by decide +kernel
theorem dX12_ints_104 : decode cX12_ints 104 = .ok (.dconst 0, 1) := by decide +kernel
theorem dX12_ints_105 : decode cX12_ints 105 = .ok (.invokevirtual 314, 3) := by decide +kernel
theorem dX12_ints_108 : decode cX12_ints 108 = .ok (.return_, 1) := by decide +kernel
theorem dX12_reckon_0 : decode cX12_reckon 0 = .ok (.iload_n 3, 1) := by decide +kernel
theorem dX12_reckon_1 : decode cX12_reckon 1 = .ok (.bipush 16, 2) := by decide +kernel
theorem dX12_reckon_3 : decode cX12_reckon 3 = .ok (.if_icmp .ne 43, 3) := by decide +kernel
theorem dX12_reckon_6 : decode cX12_reckon 6 = .ok (.aload_n 0, 1) := by decide +kernel
theorem dX12_reckon_7 : decode cX12_reckon 7 = .ok (.iload_n 1, 1) := by decide +kernel
theorem dX12_reckon_8 : decode cX12_reckon 8 = .ok (.invokevirtual 382, 3) := by decide +kernel
theorem dX12_reckon_11 : decode cX12_reckon 11 = .ok (.ifCond .eq 35, 3) := by decide +kernel
theorem dX12_reckon_14 : decode cX12_reckon 14 = .ok (.aload_n 0, 1) := by decide +kernel
theorem dX12_reckon_15 : decode cX12_reckon 15 = .ok (.iload_n 2, 1) := by decide +kernel
theorem dX12_reckon_16 : decode cX12_reckon 16 = .ok (.invokevirtual 382, 3) := by decide +kernel
theorem dX12_reckon_19 : decode cX12_reckon 19 = .ok (.ifCond .eq 27, 3) := by decide +kernel
theorem dX12_reckon_22 : decode cX12_reckon 22 = .ok (.aload_n 0, 1) := by decide +kernel
theorem dX12_reckon_23 : decode cX12_reckon 23 = .ok (.getfield 111, 3) := by decide +kernel
theorem dX12_reckon_26 : decode cX12_reckon 26 = .ok (.iload_n 1, 1) := by decide +kernel
theorem dX12_reckon_27 : decode cX12_reckon 27 = .ok (.iaload, 1) := by decide +kernel
theorem dX12_reckon_28 : decode cX12_reckon 28 = .ok (.iconst 4, 1) := by decide +kernel
theorem dX12_reckon_29 : decode cX12_reckon 29 = .ok (.if_icmp .eq 13, 3) := by decide +kernel
theorem dX12_reckon_32 : decode cX12_reckon 32 = .ok (.aload_n 0, 1) := by decide +kernel
theorem dX12_reckon_33 : decode cX12_reckon 33 = .ok (.getfield 111, 3) := by decide +kernel
theorem dX12_reckon_36 : decode cX12_reckon 36 = .ok (.iload_n 2, 1) := by decide +kernel
theorem dX12_reckon_37 : decode cX12_reckon 37 = .ok (.iaload, 1) := by decide +kernel
theorem dX12_reckon_38 : decode cX12_reckon 38 = .ok (.iconst 4, 1) := by decide +kernel
theorem dX12_reckon_39 : decode cX12_reckon 39 = .ok (.if_icmp .ne 7, 3) := by decide +kernel
theorem dX12_reckon_42 : decode cX12_reckon 42 = .ok (.iconst 1, 1) := by decide +kernel
theorem dX12_reckon_43 : decode cX12_reckon 43 = .ok (.goto 4, 3) := by decide +kernel
theorem dX12_reckon_46 : decode cX12_reckon 46 = .ok (.iconst 0, 1) := by decide +kernel
theorem dX12_reckon_47 : decode cX12_reckon 47 = .ok (.istore 4, 2) := by decide +kernel
theorem dX12_reckon_49 : decode cX12_reckon 49 = .ok (.iload 4, 2) := by decide +kernel
theorem dX12_reckon_51 : decode cX12_reckon 51 = .ok (.ifCond .eq 44, 3) := by decide +kernel
theorem dX12_reckon_54 : decode cX12_reckon 54 = .ok (.aload_n 0, 1) := by decide +kernel
theorem dX12_reckon_55 : decode cX12_reckon 55 = .ok (.iconst 0, 1) := by decide +kernel
theorem dX12_reckon_56 : decode cX12_reckon 56 = .ok (.putfield 320, 3) := by decide +kernel
theorem dX12_reckon_59 : decode cX12_reckon 59 = .ok (.aload_n 0, 1) := by decide +kernel
theorem dX12_reckon_60 : decode cX12_reckon 60 = .ok (.iload_n 1, 1) := by decide +kernel
theorem dX12_reckon_61 : decode cX12_reckon 61 = .ok (.invokevirtual 350, 3) := by decide +kernel
theorem dX12_reckon_64 : decode cX12_reckon 64 = .ok (.aload_n 0, 1) := by decide +kernel
theorem dX12_reckon_65 : decode cX12_reckon 65 = .ok (.iload_n 2, 1) := by decide +kernel
theorem dX12_reckon_66 : decode cX12_reckon 66 = .ok (.invokevirtual 350, 3) := by decide +kernel
theorem dX12_reckon_69 : decode cX12_reckon 69 = .ok (.aload_n 0, 1) := by decide +kernel
theorem dX12_reckon_70 : decode cX12_reckon 70 = .ok (.getfield 320, 3) := by decide +kernel
theorem dX12_reckon_73 : decode cX12_reckon 73 = .ok (.bipush 16, 2) := by decide +kernel
theorem dX12_reckon_75 : decode cX12_reckon 75 = .ok (.if_icmp .le 12, 3) := by decide +kernel
theorem dX12_reckon_78 : decode cX12_reckon 78 = .ok (.aload_n 0, 1) := by decide +kernel
theorem dX12_reckon_79 : decode cX12_reckon 79 = .ok (.bipush 9, 2) := by decide +kernel
theorem dX12_reckon_81 : decode cX12_reckon 81 = .ok (.putfield 340, 3) := by decide +kernel
theorem dX12_reckon_84 : decode cX12_reckon 84 = .ok (.goto 98, 3) := by decide +kernel
theorem dX12_reckon_87 : decode cX12_reckon 87 = .ok (.aload_n 0, 1) := by decide +kernel
theorem dX12_reckon_88 : decode cX12_reckon 88 = .ok (.iload_n 1, 1) := by decide +kernel
theorem dX12_reckon_89 : decode cX12_reckon 89 = .ok (.invokevirtual 353, 3) := by decide +kernel
theorem dX12_reckon_92 : decode cX12_reckon 92 = .ok (.goto 90, 3) := by decide +kernel
theorem dX12_reckon_95 : decode cX12_reckon 95 = .ok (.aload_n 0, 1) := by decide +kernel
theorem dX12_reckon_96 : decode cX12_reckon 96 = .ok (.iload_n 1, 1) := by decide +kernel
theorem dX12_reckon_97 : decode cX12_reckon 97 = .ok (.invokevirtual 385, 3) := by decide +kernel
theorem dX12_reckon_100 : decode cX12_reckon 100 = .ok (.ifCond .eq 37, 3) := by decide +kernel
theorem dX12_reckon_103 : decode cX12_reckon 103 = .ok (.aload_n 0, 1) := by decide +kernel
theorem dX12_reckon_104 : decode cX12_reckon 104 = .ok (.iload_n 2, 1) := by decide +kernel
theorem dX12_reckon_105 : decode cX12_reckon 105 = .ok (.invokevirtual 385, 3) := by decide +kernel
theorem dX12_reckon_108 : decode cX12_reckon 108 = .ok (.ifCond .eq 29, 3) := by decide +kernel
theorem dX12_reckon_111 : decode cX12_reckon 111 = .ok (.iload_n 3, 1) := by decide +kernel
theorem dX12_reckon_112 : decode cX12_reckon 112 = .ok (.bipush 20, 2) := by decide +kernel
theorem dX12_reckon_114 : decode cX12_reckon 114 = .ok (.if_icmp .ne 31, 3) := by decide +kernel
theorem dX12_reckon_117 : decode cX12_reckon 117 = .ok (.aload_n 0, 1) := by decide +kernel
theorem dX12_reckon_118 : decode cX12_reckon 118 = .ok (.getfield 111, 3) := by decide +kernel
theorem dX12_reckon_121 : decode cX12_reckon 121 = .ok (.iload_n 1, 1) := by decide +kernel
theorem dX12_reckon_122 : decode cX12_reckon 122 = .ok (.iaload, 1) := by decide +kernel
theorem dX12_reckon_123 : decode cX12_reckon 123 = .ok (.iconst 3, 1) := by decide +kernel
theorem dX12_reckon_124 : decode cX12_reckon 124 = .ok (.if_icmp .eq 13, 3) := by decide +kernel
theorem dX12_reckon_127 : decode cX12_reckon 127 = .ok (.aload_n 0, 1) := by decide +kernel
theorem dX12_reckon_128 : decode cX12_reckon 128 = .ok (.getfield 111, 3) := by decide +kernel
theorem dX12_reckon_131 : decode cX12_reckon 131 = .ok (.iload_n 2, 1) := by decide +kernel
theorem dX12_reckon_132 : decode cX12_reckon 132 = .ok (.iaload, 1) := by decide +kernel
theorem dX12_reckon_133 : decode cX12_reckon 133 = .ok (.iconst 3, 1) := by decide +kernel
theorem dX12_reckon_134 : decode cX12_reckon 134 = .ok (.if_icmp .ne 11, 3) := by decide +kernel
theorem dX12_reckon_137 : decode cX12_reckon 137 = .ok (.aload_n 0, 1) := by decide +kernel
theorem dX12_reckon_138 : decode cX12_reckon 138 = .ok (.iconst 1, 1) := by decide +kernel
theorem dX12_reckon_139 : decode cX12_reckon 139 = .ok (.putfield 340, 3) := by decide +kernel
theorem dX12_reckon_142 : decode cX12_reckon 142 = .ok (.goto 40, 3) := by decide +kernel
theorem dX12_reckon_145 : decode cX12_reckon 145 = .ok (.aload_n 0, 1) := by decide +kernel
theorem dX12_reckon_146 : decode cX12_reckon 146 = .ok (.getfield 111, 3) := by decide +kernel
theorem dX12_reckon_149 : decode cX12_reckon 149 = .ok (.iload_n 1, 1) := by decide +kernel
theorem dX12_reckon_150 : decode cX12_reckon 150 = .ok (.iaload, 1) := by decide +kernel
theorem dX12_reckon_151 : decode cX12_reckon 151 = .ok (.iconst 3, 1) := by decide +kernel
theorem dX12_reckon_152 : decode cX12_reckon 152 = .ok (.if_icmp .eq 13, 3) := by decide +kernel
theorem dX12_reckon_155 : decode cX12_reckon 155 = .ok (.aload_n 0, 1) := by decide +kernel
theorem dX12_reckon_156 : decode cX12_reckon 156 = .ok (.getfield 111, 3) := by decide +kernel
theorem dX12_reckon_159 : decode cX12_reckon 159 = .ok (.iload_n 2, 1) := by decide +kernel
theorem dX12_reckon_160 : decode cX12_reckon 160 = .ok (.iaload, 1) := by decide +kernel
theorem dX12_reckon_161 : decode cX12_reckon 161 = .ok (.iconst 3, 1) := by decide +kernel
theorem dX12_reckon_162 : decode cX12_reckon 162 = .ok (.if_icmp .ne 13, 3) := by decide +kernel
theorem dX12_reckon_165 : decode cX12_reckon 165 = .ok (.aload_n 0, 1) := by decide +kernel
theorem dX12_reckon_166 : decode cX12_reckon 166 = .ok (.iload_n 1, 1) := by decide +kernel
theorem dX12_reckon_167 : decode cX12_reckon 167 = .ok (.iload_n 2, 1) := by decide +kernel
theorem dX12_reckon_168 : decode cX12_reckon 168 = .ok (.iload_n 3, 1) := by decide +kernel
theorem dX12_reckon_169 : decode cX12_reckon 169 = .ok (.invokevirtual 388, 3) := by decide +kernel
theorem dX12_reckon_172 : decode cX12_reckon 172 = .ok (.goto 10, 3) := by decide +kernel
theorem dX12_reckon_175 : decode cX12_reckon 175 = .ok (.aload_n 0, 1) := by decide +kernel
theorem dX12_reckon_176 : decode cX12_reckon 176 = .ok (.iload_n 1, 1) := by decide +kernel
theorem dX12_reckon_177 : decode cX12_reckon 177 = .ok (.iload_n 2, 1) := by decide +kernel
theorem dX12_reckon_178 : decode cX12_reckon 178 = .ok (.iload_n 3, 1) := by decide +kernel
theorem dX12_reckon_179 : decode cX12_reckon 179 = .ok (.invokevirtual 392, 3) := by decide +kernel
theorem dX12_reckon_182 : decode cX12_reckon 182 = .ok (.return_, 1) := by decide +kernel
theorem dX12_alike_0 : decode cX12_alike 0 = .ok (.aload_n 0, 1) := by decide +kernel
theorem dX12_alike_1 : decode cX12_alike 1 = .ok (.iload_n 1, 1) := by decide +kernel
theorem dX12_alike_2 : decode cX12_alike 2 = .ok (.invokevirtual 385, 3) := by decide +kernel
theorem dX12_alike_5 : decode cX12_alike 5 = .ok (.ifCond .eq 31, 3) := by decide +kernel
theorem dX12_alike_8 : decode cX12_alike 8 = .ok (.aload_n 0, 1) := by decide +kernel
theorem dX12_alike_9 : decode cX12_alike 9 = .ok (.iload_n 2, 1) := by decide +kernel
theorem dX12_alike_10 : decode cX12_alike 10 = .ok (.invokevirtual 385, 3) := by decide +kernel
theorem dX12_alike_13 : decode cX12_alike 13 = .ok (.ifCond .eq 23, 3) := by decide +kernel
theorem dX12_alike_16 : decode cX12_alike 16 = .ok (.aload_n 0, 1) := by decide +kernel
theorem dX12_alike_17 : decode cX12_alike 17 = .ok (.iload_n 1, 1) := by decide +kernel
theorem dX12_alike_18 : decode cX12_alike 18 = .ok (.invokevirtual 374, 3) := by decide +kernel
theorem dX12_alike_21 : decode cX12_alike 21 = .ok (.aload_n 0, 1) := by decide +kernel
theorem dX12_alike_22 : decode cX12_alike 22 = .ok (.iload_n 2, 1) := by decide +kernel
theorem dX12_alike_23 : decode cX12_alike 23 = .ok (.invokevirtual 374, 3) := by decide +kernel
theorem dX12_alike_26 : decode cX12_alike 26 = .ok (.dcmp .l, 1) := by decide +kernel
theorem dX12_alike_27 : decode cX12_alike 27 = .ok (.ifCond .ne 7, 3) := by decide +kernel
theorem dX12_alike_30 : decode cX12_alike 30 = .ok (.iconst 1, 1) := by decide +kernel
theorem dX12_alike_31 : decode cX12_alike 31 = .ok (.goto 4, 3) := by decide +kernel
theorem dX12_alike_34 : decode cX12_alike 34 = .ok (.iconst 0, 1) := by decide +kernel
theorem dX12_alike_35 : decode cX12_alike 35 = .ok (.ireturn, 1) := by decide +kernel
theorem dX12_alike_36 : decode cX12_alike 36 = .ok (.aload_n 0, 1) := by decide +kernel
theorem dX12_alike_37 : decode cX12_alike 37 = .ok (.getfield 111, 3) := by decide +kernel
theorem dX12_alike_40 : decode cX12_alike 40 = .ok (.iload_n 1, 1) := by decide +kernel
theorem dX12_alike_41 : decode cX12_alike 41 = .ok (.iaload, 1) := by decide +kernel
theorem dX12_alike_42 : decode cX12_alike 42 = .ok (.aload_n 0, 1) := by decide +kernel
theorem dX12_alike_43 : decode cX12_alike 43 = .ok (.getfield 111, 3) := by decide +kernel
theorem dX12_alike_46 : decode cX12_alike 46 = .ok (.iload_n 2, 1) := by decide +kernel
theorem dX12_alike_47 : decode cX12_alike 47 = .ok (.iaload, 1) := by decide +kernel
theorem dX12_alike_48 : decode cX12_alike 48 = .ok (.if_icmp .ne 39, 3) := by decide +kernel
theorem dX12_alike_51 : decode cX12_alike 51 = .ok (.aload_n 0, 1) := by decide +kernel
theorem dX12_alike_52 : decode cX12_alike 52 = .ok (.getfield 114, 3) := by decide +kernel
theorem dX12_alike_55 : decode cX12_alike 55 = .ok (.iload_n 1, 1) := by decide +kernel
theorem dX12_alike_56 : decode cX12_alike 56 = .ok (.laload, 1) := by decide +kernel
theorem dX12_alike_57 : decode cX12_alike 57 = .ok (.aload_n 0, 1) := by decide +kernel
theorem dX12_alike_58 : decode cX12_alike 58 = .ok (.getfield 114, 3) := by decide +kernel
theorem dX12_alike_61 : decode cX12_alike 61 = .ok (.iload_n 2, 1) := by decide +kernel
theorem dX12_alike_62 : decode cX12_alike 62 = .ok (.laload, 1) := by decide +kernel
theorem dX12_alike_63 : decode cX12_alike 63 = .ok (.lcmp, 1) := by decide +kernel
theorem dX12_alike_64 : decode cX12_alike 64 = .ok (.ifCond .ne 23, 3) := by decide +kernel
theorem dX12_alike_67 : decode cX12_alike 67 = .ok (.aload_n 0, 1) := by decide +kernel
theorem dX12_alike_68 : decode cX12_alike 68 = .ok (.getfield 117, 3) := by decide +kernel
theorem dX12_alike_71 : decode cX12_alike 71 = .ok (.iload_n 1, 1) := by decide +kernel
theorem dX12_alike_72 : decode cX12_alike 72 = .ok (.laload, 1) := by decide +kernel
theorem dX12_alike_73 : decode cX12_alike 73 = .ok (.aload_n 0, 1) := by decide +kernel
theorem dX12_alike_74 : decode cX12_alike 74 = .ok (.getfield 117, 3) := by decide +kernel
theorem dX12_alike_77 : decode cX12_alike 77 = .ok (.iload_n 2, 1) := by decide +kernel
theorem dX12_alike_78 : decode cX12_alike 78 = .ok (.laload, 1) := by decide +kernel
theorem dX12_alike_79 : decode cX12_alike 79 = .ok (.lcmp, 1) := by decide +kernel
theorem dX12_alike_80 : decode cX12_alike 80 = .ok (.ifCond .ne 7, 3) := by decide +kernel
theorem dX12_alike_83 : decode cX12_alike 83 = .ok (.iconst 1, 1) := by decide +kernel
theorem dX12_alike_84 : decode cX12_alike 84 = .ok (.goto 4, 3) := by decide +kernel
theorem dX12_alike_87 : decode cX12_alike 87 = .ok (.iconst 0, 1) := by decide +kernel
theorem dX12_alike_88 : decode cX12_alike 88 = .ok (.ireturn, 1) := by decide +kernel
theorem dX12_compare_0 : decode cX12_compare 0 = .ok (.iconst 0, 1) := by decide +kernel
theorem dX12_compare_1 : decode cX12_compare 1 = .ok (.istore 4, 2) := by decide +kernel
theorem dX12_compare_3 : decode cX12_compare 3 = .ok (.iload_n 3, 1) := by decide +kernel
theorem dX12_compare_4 : decode cX12_compare 4 = .ok (.bipush 25, 2) := by decide +kernel
theorem dX12_compare_6 : decode cX12_compare 6 = .ok (.if_icmp .lt 33, 3) := by decide +kernel
theorem dX12_compare_9 : decode cX12_compare 9 = .ok (.aload_n 0, 1) := by decide +kernel
theorem dX12_compare_10 : decode cX12_compare 10 = .ok (.iload_n 1, 1) := by decide +kernel
theorem dX12_compare_11 : decode cX12_compare 11 = .ok (.iload_n 2, 1) := by decide +kernel
theorem dX12_compare_12 : decode cX12_compare 12 = .ok (.invokevirtual 395, 3) := by decide +kernel
theorem dX12_compare_15 : decode cX12_compare 15 = .ok (.iload_n 3, 1) := by decide +kernel
theorem dX12_compare_16 : decode cX12_compare 16 = .ok (.bipush 25, 2) := by decide +kernel
theorem dX12_compare_18 : decode cX12_compare 18 = .ok (.if_icmp .ne 7, 3) := by decide +kernel
theorem dX12_compare_21 : decode cX12_compare 21 = .ok (.iconst 1, 1) := by decide +kernel
theorem dX12_compare_22 : decode cX12_compare 22 = .ok (.goto 4, 3) := by decide +kernel
theorem dX12_compare_25 : decode cX12_compare 25 = .ok (.iconst 0, 1) := by decide +kernel
theorem dX12_compare_26 : decode cX12_compare 26 = .ok (.if_icmp .ne 7, 3) := by decide +kernel
theorem dX12_compare_29 : decode cX12_compare 29 = .ok (.iconst 1, 1) := by decide +kernel
theorem dX12_compare_30 : decode cX12_compare 30 = .ok (.goto 4, 3) := by decide +kernel
theorem dX12_compare_33 : decode cX12_compare 33 = .ok (.iconst 0, 1) := by decide +kernel
theorem dX12_compare_34 : decode cX12_compare 34 = .ok (.istore 4, 2) := by decide +kernel
theorem dX12_compare_36 : decode cX12_compare 36 = .ok (.goto 122, 3) := by decide +kernel
theorem dX12_compare_39 : decode cX12_compare 39 = .ok (.aload_n 0, 1) := by decide +kernel
theorem dX12_compare_40 : decode cX12_compare 40 = .ok (.iload_n 1, 1) := by decide +kernel
theorem dX12_compare_41 : decode cX12_compare 41 = .ok (.invokevirtual 385, 3) := by decide +kernel
theorem dX12_compare_44 : decode cX12_compare 44 = .ok (.ifCond .eq 11, 3) := by decide +kernel
theorem dX12_compare_47 : decode cX12_compare 47 = .ok (.aload_n 0, 1) := by decide +kernel
theorem dX12_compare_48 : decode cX12_compare 48 = .ok (.iload_n 2, 1) := by decide +kernel
theorem dX12_compare_49 : decode cX12_compare 49 = .ok (.invokevirtual 385, 3) := by decide +kernel
theorem dX12_compare_52 : decode cX12_compare 52 = .ok (.ifCond .ne 11, 3) := by decide +kernel
theorem dX12_compare_55 : decode cX12_compare 55 = .ok (.aload_n 0, 1) := by decide +kernel
theorem dX12_compare_56 : decode cX12_compare 56 = .ok (.iconst 1, 1) := by decide +kernel
theorem dX12_compare_57 : decode cX12_compare 57 = .ok (.putfield 340, 3) := by decide +kernel
theorem dX12_compare_60 : decode cX12_compare 60 = .ok (.goto 98, 3) := by decide +kernel
theorem dX12_compare_63 : decode cX12_compare 63 = .ok (.aload_n 0, 1) := by decide +kernel
theorem dX12_compare_64 : decode cX12_compare 64 = .ok (.iload_n 1, 1) := by decide +kernel
theorem dX12_compare_65 : decode cX12_compare 65 = .ok (.invokevirtual 374, 3) := by decide +kernel
theorem dX12_compare_68 : decode cX12_compare 68 = .ok (.dstore 5, 2) := by decide +kernel
theorem dX12_compare_70 : decode cX12_compare 70 = .ok (.aload_n 0, 1) := by decide +kernel
theorem dX12_compare_71 : decode cX12_compare 71 = .ok (.iload_n 2, 1) := by decide +kernel
theorem dX12_compare_72 : decode cX12_compare 72 = .ok (.invokevirtual 374, 3) := by decide +kernel
theorem dX12_compare_75 : decode cX12_compare 75 = .ok (.dstore 7, 2) := by decide +kernel
theorem dX12_compare_77 : decode cX12_compare 77 = .ok (.iload_n 3, 1) := by decide +kernel
theorem dX12_compare_78 : decode cX12_compare 78 = .ok (.bipush 21, 2) := by decide +kernel
theorem dX12_compare_80 : decode cX12_compare 80 = .ok (.if_icmp .ne 19, 3) := by decide +kernel
theorem dX12_compare_83 : decode cX12_compare 83 = .ok (.dload 5, 2) := by decide +kernel
theorem dX12_compare_85 : decode cX12_compare 85 = .ok (.dload 7, 2) := by decide +kernel
theorem dX12_compare_87 : decode cX12_compare 87 = .ok (.dcmp .g, 1) := by decide +kernel
theorem dX12_compare_88 : decode cX12_compare 88 = .ok (.ifCond .ge 7, 3) := by decide +kernel
theorem dX12_compare_91 : decode cX12_compare 91 = .ok (.iconst 1, 1) := by decide +kernel
theorem dX12_compare_92 : decode cX12_compare 92 = .ok (.goto 64, 3) := by decide +kernel
theorem dX12_compare_95 : decode cX12_compare 95 = .ok (.iconst 0, 1) := by decide +kernel
theorem dX12_compare_96 : decode cX12_compare 96 = .ok (.goto 60, 3) := by decide +kernel
theorem dX12_compare_99 : decode cX12_compare 99 = .ok (.iload_n 3, 1) := by decide +kernel
theorem dX12_compare_100 : decode cX12_compare 100 = .ok (.bipush 22, 2) := by decide +kernel
theorem dX12_compare_102 : decode cX12_compare 102 = .ok (.if_icmp .ne 19, 3) := by decide +kernel
theorem dX12_compare_105 : decode cX12_compare 105 = .ok (.dload 5, 2) := by decide +kernel
theorem dX12_compare_107 : decode cX12_compare 107 = .ok (.dload 7, 2) := by decide +kernel
theorem dX12_compare_109 : decode cX12_compare 109 = .ok (.dcmp .l, 1) := by decide +kernel
theorem dX12_compare_110 : decode cX12_compare 110 = .ok (.ifCond .le 7, 3) := by decide +kernel
theorem dX12_compare_113 : decode cX12_compare 113 = .ok (.iconst 1, 1) := by decide +kernel
theorem dX12_compare_114 : decode cX12_compare 114 = .ok (.goto 42, 3) := by decide +kernel
theorem dX12_compare_117 : decode cX12_compare 117 = .ok (.iconst 0, 1) := by decide +kernel
theorem dX12_compare_118 : decode cX12_compare 118 = .ok (.goto 38, 3) := by decide +kernel
theorem dX12_compare_121 : decode cX12_compare 121 = .ok (.iload_n 3, 1) := by decide +kernel
theorem dX12_compare_122 : decode cX12_compare 122 = .ok (.bipush 23, 2) := by decide +kernel
theorem dX12_compare_124 : decode cX12_compare 124 = .ok (.if_icmp .ne 19, 3) := by decide +kernel
theorem dX12_compare_127 : decode cX12_compare 127 = .ok (.dload 5, 2) := by decide +kernel
theorem dX12_compare_129 : decode cX12_compare 129 = .ok (.dload 7, 2) := by decide +kernel
theorem dX12_compare_131 : decode cX12_compare 131 = .ok (.dcmp .g, 1) := by decide +kernel
theorem dX12_compare_132 : decode cX12_compare 132 = .ok (.ifCond .gt 7, 3) := by decide +kernel
theorem dX12_compare_135 : decode cX12_compare 135 = .ok (.iconst 1, 1) := by decide +kernel
theorem dX12_compare_136 : decode cX12_compare 136 = .ok (.goto 20, 3) := by decide +kernel
theorem dX12_compare_139 : decode cX12_compare 139 = .ok (.iconst 0, 1) := by decide +kernel
theorem dX12_compare_140 : decode cX12_compare 140 = .ok (.goto 16, 3) := by decide +kernel
theorem dX12_compare_143 : decode cX12_compare 143 = .ok (.dload 5, 2) := by decide +kernel
theorem dX12_compare_145 : decode cX12_compare 145 = .ok (.dload 7, 2) := by decide +kernel
theorem dX12_compare_147 : decode cX12_compare 147 = .ok (.dcmp .l, 1) := by decide +kernel
theorem dX12_compare_148 : decode cX12_compare 148 = .ok (.ifCond .lt 7, 3) := by decide +kernel
theorem dX12_compare_151 : decode cX12_compare 151 = .ok (.iconst 1, 1) := by decide +kernel
theorem dX12_compare_152 : decode cX12_compare 152 = .ok (.goto 4, 3) := by decide +kernel
theorem dX12_compare_155 : decode cX12_compare 155 = .ok (.iconst 0, 1) := by decide +kernel
theorem dX12_compare_156 : decode cX12_compare 156 = .ok (.istore 4, 2) := by decide +kernel
theorem dX12_compare_158 : decode cX12_compare 158 = .ok (.aload_n 0, 1) := by decide +kernel
theorem dX12_compare_159 : decode cX12_compare 159 = .ok (.iload_n 1, 1) := by decide +kernel
theorem dX12_compare_160 : decode cX12_compare 160 = .ok (.iconst 1, 1) := by decide +kernel
theorem dX12_compare_161 : decode cX12_compare 161 = .ok (.iload 4, 2) := by decide +kernel
theorem dX12_compare_163 : decode cX12_compare 163 = .ok (.ifCond .eq 7, 3) := by decide +kernel
theorem dX12_compare_166 : decode cX12_compare 166 = .ok (.lconst 1, 1) := by decide +kernel
theorem dX12_compare_167 : decode cX12_compare 167 = .ok (.goto 4, 3) := by decide +kernel
theorem dX12_compare_170 : decode cX12_compare 170 = .ok (.lconst 0, 1) := by decide +kernel
theorem dX12_compare_171 : decode cX12_compare 171 = .ok (.dconst 0, 1) := by decide +kernel
theorem dX12_compare_172 : decode cX12_compare 172 = .ok (.invokevirtual 314, 3) := by decide +kernel
theorem dX12_compare_175 : decode cX12_compare 175 = .ok (.return_, 1) := by decide +kernel
theorem dX12_unary_0 : decode cX12_unary 0 = .ok (.aload_n 0, 1) := by decide +kernel
theorem dX12_unary_1 : decode cX12_unary 1 = .ok (.getfield 311, 3) := by decide +kernel
theorem dX12_unary_4 : decode cX12_unary 4 = .ok (.iconst 1, 1) := by decide +kernel
theorem dX12_unary_5 : decode cX12_unary 5 = .ok (.isub, 1) := by decide +kernel
theorem dX12_unary_6 : decode cX12_unary 6 = .ok (.istore_n 2, 1) := by decide +kernel
theorem dX12_unary_7 : decode cX12_unary 7 = .ok (.iload_n 1, 1) := by decide +kernel
theorem dX12_unary_8 : decode cX12_unary 8 = .ok (.bipush 31, 2) := by decide +kernel
theorem dX12_unary_10 : decode cX12_unary 10 = .ok (.if_icmp .ne 43, 3) := by decide +kernel
theorem dX12_unary_13 : decode cX12_unary 13 = .ok (.aload_n 0, 1) := by decide +kernel
theorem dX12_unary_14 : decode cX12_unary 14 = .ok (.aload_n 0, 1) := by decide +kernel
theorem dX12_unary_15 : decode cX12_unary 15 = .ok (.getfield 111, 3) := by decide +kernel
theorem dX12_unary_18 : decode cX12_unary 18 = .ok (.iload_n 2, 1) := by decide +kernel
theorem dX12_unary_19 : decode cX12_unary 19 = .ok (.iaload, 1) := by decide +kernel
theorem dX12_unary_20 : decode cX12_unary 20 = .ok (.iconst 1, 1) := by decide +kernel
theorem dX12_unary_21 : decode cX12_unary 21 = .ok (.if_icmp .ne 10, 3) := by decide +kernel
theorem dX12_unary_24 : decode cX12_unary 24 = .ok (.aload_n 0, 1) := by decide +kernel
theorem dX12_unary_25 : decode cX12_unary 25 = .ok (.getfield 340, 3) := by decide +kernel
theorem dX12_unary_28 : decode cX12_unary 28 = .ok (.goto 4, 3) := by decide +kernel
theorem dX12_unary_31 : decode cX12_unary 31 = .ok (.iconst 1, 1) := by decide +kernel
theorem dX12_unary_32 : decode cX12_unary 32 = .ok (.putfield 340, 3) := by decide +kernel
theorem dX12_unary_35 : decode cX12_unary 35 = .ok (.aload_n 0, 1) := by decide +kernel
theorem dX12_unary_36 : decode cX12_unary 36 = .ok (.iload_n 2, 1) := by decide +kernel
theorem dX12_unary_37 : decode cX12_unary 37 = .ok (.iconst 1, 1) := by decide +kernel
theorem dX12_unary_38 : decode cX12_unary 38 = .ok (.lconst 1, 1) := by decide +kernel
theorem dX12_unary_39 : decode cX12_unary 39 = .ok (.aload_n 0, 1) := by decide +kernel
theorem dX12_unary_40 : decode cX12_unary 40 = .ok (.getfield 114, 3) := by decide +kernel
theorem dX12_unary_43 : decode cX12_unary 43 = .ok (.iload_n 2, 1) := by decide +kernel
theorem dX12_unary_44 : decode cX12_unary 44 = .ok (.laload, 1) := by decide +kernel
theorem dX12_unary_45 : decode cX12_unary 45 = .ok (.lsub, 1) := by decide +kernel
theorem dX12_unary_46 : decode cX12_unary 46 = .ok (.dconst 0, 1) := by decide +kernel
theorem dX12_unary_47 : decode cX12_unary 47 = .ok (.invokevirtual 314, 3) := by decide +kernel
theorem dX12_unary_50 : decode cX12_unary 50 = .ok (.goto 68, 3) := by decide +kernel
theorem dX12_unary_53 : decode cX12_unary 53 = .ok (.aload_n 0, 1) := by decide +kernel
theorem dX12_unary_54 : decode cX12_unary 54 = .ok (.getfield 111, 3) := by decide +kernel
theorem dX12_unary_57 : decode cX12_unary 57 = .ok (.iload_n 2, 1) := by decide +kernel
theorem dX12_unary_58 : decode cX12_unary 58 = .ok (.iaload, 1) := by decide +kernel
theorem dX12_unary_59 : decode cX12_unary 59 = .ok (.iconst 2, 1) := by decide +kernel
theorem dX12_unary_60 : decode cX12_unary 60 = .ok (.if_icmp .ne 24, 3) := by decide +kernel
theorem dX12_unary_63 : decode cX12_unary 63 = .ok (.aload_n 0, 1) := by decide +kernel
theorem dX12_unary_64 : decode cX12_unary 64 = .ok (.getfield 114, 3) := by decide +kernel
theorem dX12_unary_67 : decode cX12_unary 67 = .ok (.iload_n 2, 1) := by decide +kernel
theorem dX12_unary_68 : decode cX12_unary 68 = .ok (.laload, 1) := by decide +kernel
theorem dX12_unary_69 : decode cX12_unary 69 = .ok (.l2i, 1) := by decide +kernel
theorem dX12_unary_70 : decode cX12_unary 70 = .ok (.ineg, 1) := by decide +kernel
theorem dX12_unary_71 : decode cX12_unary 71 = .ok (.istore_n 3, 1) := by decide +kernel
theorem dX12_unary_72 : decode cX12_unary 72 = .ok (.aload_n 0, 1) := by decide +kernel
theorem dX12_unary_73 : decode cX12_unary 73 = .ok (.iload_n 2, 1) := by decide +kernel
theorem dX12_unary_74 : decode cX12_unary 74 = .ok (.iconst 2, 1) := by decide +kernel
theorem dX12_unary_75 : decode cX12_unary 75 = .ok (.iload_n 3, 1) := by decide +kernel
theorem dX12_unary_76 : decode cX12_unary 76 = .ok (.i2l, 1) := by decide +kernel
theorem dX12_unary_77 : decode cX12_unary 77 = .ok (.dconst 0, 1) := by decide +kernel
theorem dX12_unary_78 : decode cX12_unary 78 = .ok (.invokevirtual 314, 3) := by decide +kernel
theorem dX12_unary_81 : decode cX12_unary 81 = .ok (.goto 37, 3) := by decide +kernel
theorem dX12_unary_84 : decode cX12_unary 84 = .ok (.aload_n 0, 1) := by decide +kernel
theorem dX12_unary_85 : decode cX12_unary 85 = .ok (.getfield 111, 3) := by decide +kernel
theorem dX12_unary_88 : decode cX12_unary 88 = .ok (.iload_n 2, 1) := by decide +kernel
theorem dX12_unary_89 : decode cX12_unary 89 = .ok (.iaload, 1) := by decide +kernel
theorem dX12_unary_90 : decode cX12_unary 90 = .ok (.iconst 3, 1) := by decide +kernel
theorem dX12_unary_91 : decode cX12_unary 91 = .ok (.if_icmp .ne 22, 3) := by decide +kernel
theorem dX12_unary_94 : decode cX12_unary 94 = .ok (.aload_n 0, 1) := by decide +kernel
theorem dX12_unary_95 : decode cX12_unary 95 = .ok (.getfield 120, 3) := by decide +kernel
theorem dX12_unary_98 : decode cX12_unary 98 = .ok (.iload_n 2, 1) := by decide +kernel
theorem dX12_unary_99 : decode cX12_unary 99 = .ok (.daload, 1) := by decide +kernel
theorem dX12_unary_100 : decode cX12_unary 100 = .ok (.dneg, 1) := by decide +kernel
theorem dX12_unary_101 : decode cX12_unary 101 = .ok (.dstore_n 3, 1) := by decide +kernel
theorem dX12_unary_102 : decode cX12_unary 102 = .ok (.aload_n 0, 1) := by decide +kernel
theorem dX12_unary_103 : decode cX12_unary 103 = .ok (.iload_n 2, 1) := by decide +kernel
theorem dX12_unary_104 : decode cX12_unary 104 = .ok (.iconst 3, 1) := by decide +kernel
theorem dX12_unary_105 : decode cX12_unary 105 = .ok (.lconst 0, 1) := by decide +kernel
theorem dX12_unary_106 : decode cX12_unary 106 = .ok (.dload_n 3, 1) := by decide +kernel
theorem dX12_unary_107 : decode cX12_unary 107 = .ok (.invokevirtual 314, 3) := by decide +kernel
theorem dX12_unary_110 : decode cX12_unary 110 = .ok (.goto 8, 3) := by decide +kernel
theorem dX12_unary_113 : decode cX12_unary 113 = .ok (.aload_n 0, 1) := by decide +kernel
theorem dX12_unary_114 : decode cX12_unary 114 = .ok (.iconst 1, 1) := by decide +kernel
theorem dX12_unary_115 : decode cX12_unary 115 = .ok (.putfield 340, 3) := by decide +kernel
theorem dX12_unary_118 : decode cX12_unary 118 = .ok (.return_, 1) := by decide +kernel
theorem dX12_property_0 : decode cX12_property 0 = .ok (.aload_n 0, 1) := by decide +kernel
theorem dX12_property_1 : decode cX12_property 1 = .ok (.getfield 311, 3) := by decide +kernel
theorem dX12_property_4 : decode cX12_property 4 = .ok (.iconst 1, 1) := by decide +kernel
theorem dX12_property_5 : decode cX12_property 5 = .ok (.isub, 1) := by decide +kernel
theorem dX12_property_6 : decode cX12_property 6 = .ok (.istore_n 3, 1) := by decide +kernel
theorem dX12_property_7 : decode cX12_property 7 = .ok (.aload_n 0, 1) := by decide +kernel
theorem dX12_property_8 : decode cX12_property 8 = .ok (.getfield 111, 3) := by decide +kernel
theorem dX12_property_11 : decode cX12_property 11 = .ok (.iload_n 3, 1) := by decide +kernel
theorem dX12_property_12 : decode cX12_property 12 = .ok (.iaload, 1) := by decide +kernel
theorem dX12_property_13 : decode cX12_property 13 = .ok (.ifCond .ne 22, 3) := by decide +kernel
theorem dX12_property_16 : decode cX12_property 16 = .ok (.aload_n 0, 1) := by decide +kernel
theorem dX12_property_17 : decode cX12_property 17 = .ok (.iload_n 2, 1) := by decide +kernel
theorem dX12_property_18 : decode cX12_property 18 = .ok (.ifCond .eq 10, 3) := by decide +kernel
theorem dX12_property_21 : decode cX12_property 21 = .ok (.aload_n 0, 1) := by decide +kernel
theorem dX12_property_22 : decode cX12_property 22 = .ok (.getfield 340, 3) := by decide +kernel
theorem dX12_property_25 : decode cX12_property 25 = .ok (.goto 4, 3) := by decide +kernel
theorem dX12_property_28 : decode cX12_property 28 = .ok (.iconst 4, 1) := by decide +kernel
theorem dX12_property_29 : decode cX12_property 29 = .ok (.putfield 340, 3) := by decide +kernel
theorem dX12_property_32 : decode cX12_property 32 = .ok (.goto 68, 3) := by decide +kernel
theorem dX12_property_35 : decode cX12_property 35 = .ok (.aload_n 0, 1) := by decide +kernel
theorem dX12_property_36 : decode cX12_property 36 = .ok (.getfield 111, 3) := by decide +kernel
theorem dX12_property_39 : decode cX12_property 39 = .ok (.iload_n 3, 1) := by decide +kernel
theorem dX12_property_40 : decode cX12_property 40 = .ok (.iaload, 1) := by decide +kernel
theorem dX12_property_41 : decode cX12_property 41 = .ok (.iconst 4, 1) := by decide +kernel
theorem dX12_property_42 : decode cX12_property 42 = .ok (.if_icmp .ne 30, 3) := by decide +kernel
theorem dX12_property_45 : decode cX12_property 45 = .ok (.iload_n 1, 1) := by decide +kernel
theorem dX12_property_46 : decode cX12_property 46 = .ok (.sipush 8897, 3) := by decide +kernel
theorem dX12_property_49 : decode cX12_property 49 = .ok (.if_icmp .ne 23, 3) := by decide +kernel
theorem dX12_property_52 : decode cX12_property 52 = .ok (.aload_n 0, 1) := by decide +kernel
theorem dX12_property_53 : decode cX12_property 53 = .ok (.iload_n 3, 1) := by decide +kernel
theorem dX12_property_54 : decode cX12_property 54 = .ok (.invokevirtual 326, 3) := by decide +kernel
theorem dX12_property_57 : decode cX12_property 57 = .ok (.istore 4, 2) := by decide +kernel
theorem dX12_property_59 : decode cX12_property 59 = .ok (.aload_n 0, 1) := by decide +kernel
theorem dX12_property_60 : decode cX12_property 60 = .ok (.iload_n 3, 1) := by decide +kernel
theorem dX12_property_61 : decode cX12_property 61 = .ok (.iconst 2, 1) := by decide +kernel
theorem dX12_property_62 : decode cX12_property 62 = .ok (.iload 4, 2) := by decide +kernel
theorem dX12_property_64 : decode cX12_property 64 = .ok (.i2l, 1) := by decide +kernel
theorem dX12_property_65 : decode cX12_property 65 = .ok (.dconst 0, 1) := by decide +kernel
theorem dX12_property_66 : decode cX12_property 66 = .ok (.invokevirtual 314, 3) := by decide +kernel
theorem dX12_property_69 : decode cX12_property 69 = .ok (.goto 31, 3) := by decide +kernel
theorem dX12_property_72 : decode cX12_property 72 = .ok (.aload_n 0, 1) := by decide +kernel
theorem dX12_property_73 : decode cX12_property 73 = .ok (.iload_n 3, 1) := by decide +kernel
theorem dX12_property_74 : decode cX12_property 74 = .ok (.iload_n 1, 1) := by decide +kernel
theorem dX12_property_75 : decode cX12_property 75 = .ok (.invokevirtual 398, 3) := by decide +kernel
theorem dX12_property_78 : decode cX12_property 78 = .ok (.istore 4, 2) := by decide +kernel
theorem dX12_property_80 : decode cX12_property 80 = .ok (.iload 4, 2) := by decide +kernel
theorem dX12_property_82 : decode cX12_property 82 = .ok (.ifCond .ge 11, 3) := by decide +kernel
theorem dX12_property_85 : decode cX12_property 85 = .ok (.aload_n 0, 1) := by decide +kernel
theorem dX12_property_86 : decode cX12_property 86 = .ok (.iconst 5, 1) := by decide +kernel
theorem dX12_property_87 : decode cX12_property 87 = .ok (.putfield 340, 3) := by decide +kernel
theorem dX12_property_90 : decode cX12_property 90 = .ok (.goto 10, 3) := by decide +kernel
theorem dX12_property_93 : decode cX12_property 93 = .ok (.aload_n 0, 1) := by decide +kernel
theorem dX12_property_94 : decode cX12_property 94 = .ok (.iload 4, 2) := by decide +kernel
theorem dX12_property_96 : decode cX12_property 96 = .ok (.iload_n 3, 1) := by decide +kernel
theorem dX12_property_97 : decode cX12_property 97 = .ok (.invokevirtual 401, 3) := by decide +kernel
theorem dX12_property_100 : decode cX12_property 100 = .ok (.return_, 1) := by decide +kernel
theorem dX12_paramsOf_0 : decode cX12_paramsOf 0 = .ok (.iload_n 0, 1) := by decide +kernel
theorem dX12_paramsOf_1 : decode cX12_paramsOf 1 = .ok (.ifCond .ne 7, 3) := by decide +kernel
theorem dX12_paramsOf_4 : decode cX12_paramsOf 4 = .ok (.iconst 0, 1) := by decide +kernel
theorem dX12_paramsOf_5 : decode cX12_paramsOf 5 = .ok (.goto 12, 3) := by decide +kernel
theorem dX12_paramsOf_8 : decode cX12_paramsOf 8 = .ok (.iload_n 1, 1) := by decide +kernel
theorem dX12_paramsOf_9 : decode cX12_paramsOf 9 = .ok (.ifCond .ne 7, 3) := by decide +kernel
theorem dX12_paramsOf_12 : decode cX12_paramsOf 12 = .ok (.iconst 1, 1) := by decide +kernel
theorem dX12_paramsOf_13 : decode cX12_paramsOf 13 = .ok (.goto 4, 3) := by decide +kernel
theorem dX12_paramsOf_16 : decode cX12_paramsOf 16 = .ok (.iconst 2, 1) := by decide +kernel
theorem dX12_paramsOf_17 : decode cX12_paramsOf 17 = .ok (.ireturn, 1) := by decide +kernel
theorem dX12_stands_0 : decode cX12_stands 0 = .ok (.aload_n 0, 1) := by decide +kernel
theorem dX12_stands_1 : decode cX12_stands 1 = .ok (.getfield 87, 3) := by decide +kernel
theorem dX12_stands_4 : decode cX12_stands 4 = .ok (.iload_n 2, 1) := by decide +kernel
theorem dX12_stands_5 : decode cX12_stands 5 = .ok (.iaload, 1) := by decide +kernel
theorem dX12_stands_6 : decode cX12_stands 6 = .ok (.iload_n 3, 1) := by decide +kernel
theorem dX12_stands_7 : decode cX12_stands 7 = .ok (.if_icmp .ne 23, 3) := by decide +kernel
theorem dX12_stands_10 : decode cX12_stands 10 = .ok (.aload_n 0, 1) := by decide +kernel
theorem dX12_stands_11 : decode cX12_stands 11 = .ok (.getfield 90, 3) := by decide +kernel
theorem dX12_stands_14 : decode cX12_stands 14 = .ok (.iload_n 2, 1) := by decide +kernel
theorem dX12_stands_15 : decode cX12_stands 15 = .ok (.iaload, 1) := by decide +kernel
theorem dX12_stands_16 : decode cX12_stands 16 = .ok (.aload_n 0, 1) := by decide +kernel
theorem dX12_stands_17 : decode cX12_stands 17 = .ok (.getfield 93, 3) := by decide +kernel
theorem dX12_stands_20 : decode cX12_stands 20 = .ok (.iload_n 2, 1) := by decide +kernel
theorem dX12_stands_21 : decode cX12_stands 21 = .ok (.iaload, 1) := by decide +kernel
theorem dX12_stands_22 : decode cX12_stands 22 = .ok (.invokestatic 404, 3) := by decide +kernel
theorem dX12_stands_25 : decode cX12_stands 25 = .ok (.iload 4, 2) := by decide +kernel
theorem dX12_stands_27 : decode cX12_stands 27 = .ok (.if_icmp .eq 5, 3) := by decide +kernel
theorem dX12_stands_30 : decode cX12_stands 30 = .ok (.iconst 0, 1) := by decide +kernel
theorem dX12_stands_31 : decode cX12_stands 31 = .ok (.ireturn, 1) := by decide +kernel
theorem dX12_stands_32 : decode cX12_stands 32 = .ok (.iconst 1, 1) := by decide +kernel
theorem dX12_stands_33 : decode cX12_stands 33 = .ok (.istore 5, 2) := by decide +kernel
theorem dX12_stands_35 : decode cX12_stands 35 = .ok (.iload_n 1, 1) := by decide +kernel
theorem dX12_stands_36 : decode cX12_stands 36 = .ok (.istore 6, 2) := by decide +kernel
theorem dX12_stands_38 : decode cX12_stands 38 = .ok (.iconst 1, 1) := by decide +kernel
theorem dX12_stands_39 : decode cX12_stands 39 = .ok (.istore 7, 2) := by decide +kernel
theorem dX12_stands_41 : decode cX12_stands 41 = .ok (.iload 6, 2) := by decide +kernel
theorem dX12_stands_43 : decode cX12_stands 43 = .ok (.ifCond .lt 129, 3) := by decide +kernel
theorem dX12_stands_46 : decode cX12_stands 46 = .ok (.iload 7, 2) := by decide +kernel
theorem dX12_stands_48 : decode cX12_stands 48 = .ok (.ifCond .eq 124, 3) := by decide +kernel
theorem dX12_stands_51 : decode cX12_stands 51 = .ok (.bipush 6, 2) := by decide +kernel
theorem dX12_stands_53 : decode cX12_stands 53 = .ok (.iload 6, 2) := by decide +kernel
theorem dX12_stands_55 : decode cX12_stands 55 = .ok (.imul, 1) := by decide +kernel
theorem dX12_stands_56 : decode cX12_stands 56 = .ok (.istore 8, 2) := by decide +kernel
theorem dX12_stands_58 : decode cX12_stands 58 = .ok (.iload 8, 2) := by decide +kernel
theorem dX12_stands_60 : decode cX12_stands 60 = .ok (.bipush 6, 2) := by decide +kernel
theorem dX12_stands_62 : decode cX12_stands 62 = .ok (.iload 6, 2) := by decide +kernel
theorem dX12_stands_64 : decode cX12_stands 64 = .ok (.imul, 1) := by decide +kernel
theorem dX12_stands_65 : decode cX12_stands 65 = .ok (.aload_n 0, 1) := by decide +kernel
theorem dX12_stands_66 : decode cX12_stands 66 = .ok (.getfield 84, 3) := by decide +kernel
theorem dX12_stands_69 : decode cX12_stands 69 = .ok (.iload 6, 2) := by decide +kernel
theorem dX12_stands_71 : decode cX12_stands 71 = .ok (.iaload, 1) := by decide +kernel
theorem dX12_stands_72 : decode cX12_stands 72 = .ok (.iadd, 1) := by decide +kernel
theorem dX12_stands_73 : decode cX12_stands 73 = .ok (.if_icmp .ge 87, 3) := by decide +kernel
theorem dX12_stands_76 : decode cX12_stands 76 = .ok (.iload 7, 2) := by decide +kernel
theorem dX12_stands_78 : decode cX12_stands 78 = .ok (.ifCond .eq 82, 3) := by decide +kernel
theorem dX12_stands_81 : decode cX12_stands 81 = .ok (.iload 8, 2) := by decide +kernel
theorem dX12_stands_83 : decode cX12_stands 83 = .ok (.iload_n 2, 1) := by decide +kernel
theorem dX12_stands_84 : decode cX12_stands 84 = .ok (.if_icmp .eq 7, 3) := by decide +kernel
theorem dX12_stands_87 : decode cX12_stands 87 = .ok (.iconst 1, 1) := by decide +kernel
theorem dX12_stands_88 : decode cX12_stands 88 = .ok (.goto 4, 3) := by decide +kernel
theorem dX12_stands_91 : decode cX12_stands 91 = .ok (.iconst 0, 1) := by decide +kernel
theorem dX12_stands_92 : decode cX12_stands 92 = .ok (.istore 7, 2) := by decide +kernel
theorem dX12_stands_94 : decode cX12_stands 94 = .ok (.iload 5, 2) := by decide +kernel
theorem dX12_stands_96 : decode cX12_stands 96 = .ok (.ifCond .eq 55, 3) := by decide +kernel
theorem dX12_stands_99 : decode cX12_stands 99 = .ok (.iload 7, 2) := by decide +kernel
theorem dX12_stands_101 : decode cX12_stands 101 = .ok (.ifCond .eq 46, 3) := by decide +kernel
theorem dX12_stands_104 : decode cX12_stands 104 = .ok (.aload_n 0, 1) := by decide +kernel
theorem dX12_stands_105 : decode cX12_stands 105 = .ok (.getfield 87, 3) := by decide +kernel
theorem dX12_stands_108 : decode cX12_stands 108 = .ok (.iload 8, 2) := by decide +kernel
theorem dX12_stands_110 : decode cX12_stands 110 = .ok (.iaload, 1) := by decide +kernel
theorem dX12_stands_111 : decode cX12_stands 111 = .ok (.iload_n 3, 1) := by decide +kernel
theorem dX12_stands_112 : decode cX12_stands 112 = .ok (.if_icmp .ne 35, 3) := by decide +kernel
theorem dX12_stands_115 : decode cX12_stands 115 = .ok (.aload_n 0, 1) := by decide +kernel
theorem dX12_stands_116 : decode cX12_stands 116 = .ok (.getfield 90, 3) := by decide +kernel
theorem dX12_stands_119 : decode cX12_stands 119 = .ok (.iload 8, 2) := by decide +kernel
theorem dX12_stands_121 : decode cX12_stands 121 = .ok (.iaload, 1) := by decide +kernel
theorem dX12_stands_122 : decode cX12_stands 122 = .ok (.aload_n 0, 1) := by decide +kernel
theorem dX12_stands_123 : decode cX12_stands 123 = .ok (.getfield 90, 3) := by decide +kernel
theorem dX12_stands_126 : decode cX12_stands 126 = .ok (.iload_n 2, 1) := by decide +kernel
theorem dX12_stands_127 : decode cX12_stands 127 = .ok (.iaload, 1) := by decide +kernel
theorem dX12_stands_128 : decode cX12_stands 128 = .ok (.if_icmp .ne 19, 3) := by decide +kernel
theorem dX12_stands_131 : decode cX12_stands 131 = .ok (.aload_n 0, 1) := by decide +kernel
theorem dX12_stands_132 : decode cX12_stands 132 = .ok (.getfield 93, 3) := by decide +kernel
theorem dX12_stands_135 : decode cX12_stands 135 = .ok (.iload 8, 2) := by decide +kernel
theorem dX12_stands_137 : decode cX12_stands 137 = .ok (.iaload, 1) := by decide +kernel
theorem dX12_stands_138 : decode cX12_stands 138 = .ok (.aload_n 0, 1) := by decide +kernel
theorem dX12_stands_139 : decode cX12_stands 139 = .ok (.getfield 93, 3) := by decide +kernel
theorem dX12_stands_142 : decode cX12_stands 142 = .ok (.iload_n 2, 1) := by decide +kernel
theorem dX12_stands_143 : decode cX12_stands 143 = .ok (.iaload, 1) := by decide +kernel
theorem dX12_stands_144 : decode cX12_stands 144 = .ok (.if_icmp .eq 7, 3) := by decide +kernel
theorem dX12_stands_147 : decode cX12_stands 147 = .ok (.iconst 1, 1) := by decide +kernel
theorem dX12_stands_148 : decode cX12_stands 148 = .ok (.goto 4, 3) := by decide +kernel
theorem dX12_stands_151 : decode cX12_stands 151 = .ok (.iconst 0, 1) := by decide +kernel
theorem dX12_stands_152 : decode cX12_stands 152 = .ok (.istore 5, 2) := by decide +kernel
theorem dX12_stands_154 : decode cX12_stands 154 = .ok (.iinc 8 1, 3) := by decide +kernel
theorem dX12_stands_157 : decode cX12_stands 157 = .ok (.goto (-99), 3) := by decide +kernel
theorem dX12_stands_160 : decode cX12_stands 160 = .ok (.aload_n 0, 1) := by decide +kernel
theorem dX12_stands_161 : decode cX12_stands 161 = .ok (.getfield 72, 3) := by decide +kernel
theorem dX12_stands_164 : decode cX12_stands 164 = .ok (.iload 6, 2) := by decide +kernel
theorem dX12_stands_166 : decode cX12_stands 166 = .ok (.iaload, 1) := by decide +kernel
theorem dX12_stands_167 : decode cX12_stands 167 = .ok (.istore 6, 2) := by decide +kernel
theorem dX12_stands_169 : decode cX12_stands 169 = .ok (.goto (-128), 3) := by decide +kernel
theorem dX12_stands_172 : decode cX12_stands 172 = .ok (.iload 5, 2) := by decide +kernel
theorem dX12_stands_174 : decode cX12_stands 174 = .ok (.ireturn, 1) := by decide +kernel
theorem dX12_weight_0 : decode cX12_weight 0 = .ok (.aload_n 0, 1) := by decide +kernel
theorem dX12_weight_1 : decode cX12_weight 1 = .ok (.getfield 111, 3) := by decide +kernel
theorem dX12_weight_4 : decode cX12_weight 4 = .ok (.iload_n 1, 1) := by decide +kernel
theorem dX12_weight_5 : decode cX12_weight 5 = .ok (.iaload, 1) := by decide +kernel
theorem dX12_weight_6 : decode cX12_weight 6 = .ok (.iload_n 2, 1) := by decide +kernel
theorem dX12_weight_7 : decode cX12_weight 7 = .ok (.if_icmp .eq 12, 3) := by decide +kernel
theorem dX12_weight_10 : decode cX12_weight 10 = .ok (.aload_n 0, 1) := by decide +kernel
theorem dX12_weight_11 : decode cX12_weight 11 = .ok (.getfield 111, 3) := by decide +kernel
theorem dX12_weight_14 : decode cX12_weight 14 = .ok (.iload_n 1, 1) := by decide +kernel
theorem dX12_weight_15 : decode cX12_weight 15 = .ok (.iaload, 1) := by decide +kernel
theorem dX12_weight_16 : decode cX12_weight 16 = .ok (.ifCond .ne 5, 3) := by decide +kernel
theorem dX12_weight_19 : decode cX12_weight 19 = .ok (.iconst 0, 1) := by decide +kernel
theorem dX12_weight_20 : decode cX12_weight 20 = .ok (.ireturn, 1) := by decide +kernel
theorem dX12_weight_21 : decode cX12_weight 21 = .ok (.iload_n 2, 1) := by decide +kernel
theorem dX12_weight_22 : decode cX12_weight 22 = .ok (.iconst 5, 1) := by decide +kernel
theorem dX12_weight_23 : decode cX12_weight 23 = .ok (.if_icmp .ne 8, 3) := by decide +kernel
theorem dX12_weight_26 : decode cX12_weight 26 = .ok (.bipush 16, 2) := by decide +kernel
theorem dX12_weight_28 : decode cX12_weight 28 = .ok (.goto 22, 3) := by decide +kernel
theorem dX12_weight_31 : decode cX12_weight 31 = .ok (.iconst 2, 1) := by decide +kernel
theorem dX12_weight_32 : decode cX12_weight 32 = .ok (.aload_n 0, 1) := by decide +kernel
theorem dX12_weight_33 : decode cX12_weight 33 = .ok (.aload_n 0, 1) := by decide +kernel
theorem dX12_weight_34 : decode cX12_weight 34 = .ok (.getfield 111, 3) := by decide +kernel
theorem dX12_weight_37 : decode cX12_weight 37 = .ok (.iload_n 1, 1) := by decide +kernel
theorem dX12_weight_38 : decode cX12_weight 38 = .ok (.iaload, 1) := by decide +kernel
theorem dX12_weight_39 : decode cX12_weight 39 = .ok (.bipush 8, 2) := by decide +kernel
theorem dX12_weight_41 : decode cX12_weight 41 = .ok (.isub, 1) := by decide +kernel
theorem dX12_weight_42 : decode cX12_weight 42 = .ok (.iload_n 2, 1) := by decide +kernel
theorem dX12_weight_43 : decode cX12_weight 43 = .ok (.bipush 8, 2) := by decide +kernel
theorem dX12_weight_45 : decode cX12_weight 45 = .ok (.isub, 1) := by decide +kernel
theorem dX12_weight_46 : decode cX12_weight 46 = .ok (.invokevirtual 362, 3) := by decide +kernel
theorem dX12_weight_49 : decode cX12_weight 49 = .ok (.imul, 1) := by decide +kernel
theorem dX12_weight_50 : decode cX12_weight 50 = .ok (.ireturn, 1) := by decide +kernel
theorem dX12_suits_0 : decode cX12_suits 0 = .ok (.iconst 1, 1) := by decide +kernel
theorem dX12_suits_1 : decode cX12_suits 1 = .ok (.istore 4, 2) := by decide +kernel
theorem dX12_suits_3 : decode cX12_suits 3 = .ok (.iconst 1, 1) := by decide +kernel
theorem dX12_suits_4 : decode cX12_suits 4 = .ok (.istore 5, 2) := by decide +kernel
theorem dX12_suits_6 : decode cX12_suits 6 = .ok (.iconst 1, 1) := by decide +kernel
theorem dX12_suits_7 : decode cX12_suits 7 = .ok (.istore 6, 2) := by decide +kernel
theorem dX12_suits_9 : decode cX12_suits 9 = .ok (.iconst 0, 1) := by decide +kernel
theorem dX12_suits_10 : decode cX12_suits 10 = .ok (.istore 7, 2) := by decide +kernel
theorem dX12_suits_12 : decode cX12_suits 12 = .ok (.iconst 0, 1) := by decide +kernel
theorem dX12_suits_13 : decode cX12_suits 13 = .ok (.istore 8, 2) := by decide +kernel
theorem dX12_suits_15 : decode cX12_suits 15 = .ok (.iload 8, 2) := by decide +kernel
theorem dX12_suits_17 : decode cX12_suits 17 = .ok (.iload_n 3, 1) := by decide +kernel
theorem dX12_suits_18 : decode cX12_suits 18 = .ok (.if_icmp .ge 140, 3) := by decide +kernel
theorem dX12_suits_21 : decode cX12_suits 21 = .ok (.iload 8, 2) := by decide +kernel
theorem dX12_suits_23 : decode cX12_suits 23 = .ok (.ifCond .ne 12, 3) := by decide +kernel
theorem dX12_suits_26 : decode cX12_suits 26 = .ok (.aload_n 0, 1) := by decide +kernel
theorem dX12_suits_27 : decode cX12_suits 27 = .ok (.getfield 90, 3) := by decide +kernel
theorem dX12_suits_30 : decode cX12_suits 30 = .ok (.iload_n 1, 1) := by decide +kernel
theorem dX12_suits_31 : decode cX12_suits 31 = .ok (.iaload, 1) := by decide +kernel
theorem dX12_suits_32 : decode cX12_suits 32 = .ok (.goto 9, 3) := by decide +kernel
theorem dX12_suits_35 : decode cX12_suits 35 = .ok (.aload_n 0, 1) := by decide +kernel
theorem dX12_suits_36 : decode cX12_suits 36 = .ok (.getfield 93, 3) := by decide +kernel
theorem dX12_suits_39 : decode cX12_suits 39 = .ok (.iload_n 1, 1) := by decide +kernel
theorem dX12_suits_40 : decode cX12_suits 40 = .ok (.iaload, 1) := by decide +kernel
theorem dX12_suits_41 : decode cX12_suits 41 = .ok (.istore 9, 2) := by decide +kernel
theorem dX12_suits_43 : decode cX12_suits 43 = .ok (.aload_n 0, 1) := by decide +kernel
theorem dX12_suits_44 : decode cX12_suits 44 = .ok (.iload_n 2, 1) := by decide +kernel
theorem dX12_suits_45 : decode cX12_suits 45 = .ok (.iload 8, 2) := by decide +kernel
theorem dX12_suits_47 : decode cX12_suits 47 = .ok (.iadd, 1) := by decide +kernel
theorem dX12_suits_48 : decode cX12_suits 48 = .ok (.iload 9, 2) := by decide +kernel
theorem dX12_suits_50 : decode cX12_suits 50 = .ok (.invokevirtual 365, 3) := by decide +kernel
theorem dX12_suits_53 : decode cX12_suits 53 = .ok (.istore 10, 2) := by decide +kernel
theorem dX12_suits_55 : decode cX12_suits 55 = .ok (.iload 4, 2) := by decide +kernel
theorem dX12_suits_57 : decode cX12_suits 57 = .ok (.ifCond .eq 21, 3) := by decide +kernel
theorem dX12_suits_60 : decode cX12_suits 60 = .ok (.aload_n 0, 1) := by decide +kernel
theorem dX12_suits_61 : decode cX12_suits 61 = .ok (.getfield 111, 3) := by decide +kernel
theorem dX12_suits_64 : decode cX12_suits 64 = .ok (.iload_n 2, 1) := by decide +kernel
theorem dX12_suits_65 : decode cX12_suits 65 = .ok (.iload 8, 2) := by decide +kernel
theorem dX12_suits_67 : decode cX12_suits 67 = .ok (.iadd, 1) := by decide +kernel
theorem dX12_suits_68 : decode cX12_suits 68 = .ok (.iaload, 1) := by decide +kernel
theorem dX12_suits_69 : decode cX12_suits 69 = .ok (.iload 9, 2) := by decide +kernel
theorem dX12_suits_71 : decode cX12_suits 71 = .ok (.if_icmp .ne 7, 3) := by decide +kernel
theorem dX12_suits_74 : decode cX12_suits 74 = .ok (.iconst 1, 1) := by decide +kernel
theorem dX12_suits_75 : decode cX12_suits 75 = .ok (.goto 4, 3) := by decide +kernel
theorem dX12_suits_78 : decode cX12_suits 78 = .ok (.iconst 0, 1) := by decide +kernel
theorem dX12_suits_79 : decode cX12_suits 79 = .ok (.istore 4, 2) := by decide +kernel
theorem dX12_suits_81 : decode cX12_suits 81 = .ok (.iload 5, 2) := by decide +kernel
theorem dX12_suits_83 : decode cX12_suits 83 = .ok (.ifCond .eq 12, 3) := by decide +kernel
theorem dX12_suits_86 : decode cX12_suits 86 = .ok (.iload 10, 2) := by decide +kernel
theorem dX12_suits_88 : decode cX12_suits 88 = .ok (.ifCond .eq 7, 3) := by decide +kernel
theorem dX12_suits_91 : decode cX12_suits 91 = .ok (.iconst 1, 1) := by decide +kernel
theorem dX12_suits_92 : decode cX12_suits 92 = .ok (.goto 4, 3) := by decide +kernel
theorem dX12_suits_95 : decode cX12_suits 95 = .ok (.iconst 0, 1) := by decide +kernel
theorem dX12_suits_96 : decode cX12_suits 96 = .ok (.istore 5, 2) := by decide +kernel
theorem dX12_suits_98 : decode cX12_suits 98 = .ok (.iload 6, 2) := by decide +kernel
theorem dX12_suits_100 : decode cX12_suits 100 = .ok (.ifCond .eq 25, 3) := by decide +kernel
theorem dX12_suits_103 : decode cX12_suits 103 = .ok (.iload 10, 2) := by decide +kernel
theorem dX12_suits_105 : decode cX12_suits 105 = .ok (.ifCond .ne 16, 3) := by decide +kernel
theorem dX12_suits_108 : decode cX12_suits 108 = .ok (.aload_n 0, 1) := by decide +kernel
theorem dX12_suits_109 : decode cX12_suits 109 = .ok (.iload_n 2, 1) := by decide +kernel
theorem dX12_suits_110 : decode cX12_suits 110 = .ok (.iload 8, 2) := by decide +kernel
theorem dX12_suits_112 : decode cX12_suits 112 = .ok (.iadd, 1) := by decide +kernel
theorem dX12_suits_113 : decode cX12_suits 113 = .ok (.iload 9, 2) := by decide +kernel
theorem dX12_suits_115 : decode cX12_suits 115 = .ok (.invokevirtual 368, 3) := by decide +kernel
theorem dX12_suits_118 : decode cX12_suits 118 = .ok (.ifCond .eq 7, 3) := by decide +kernel
theorem dX12_suits_121 : decode cX12_suits 121 = .ok (.iconst 1, 1) := by decide +kernel
theorem dX12_suits_122 : decode cX12_suits 122 = .ok (.goto 4, 3) := by decide +kernel
theorem dX12_suits_125 : decode cX12_suits 125 = .ok (.iconst 0, 1) := by decide +kernel
theorem dX12_suits_126 : decode cX12_suits 126 = .ok (.istore 6, 2) := by decide +kernel
theorem dX12_suits_128 : decode cX12_suits 128 = .ok (.iload 7, 2) := by decide +kernel
theorem dX12_suits_130 : decode cX12_suits 130 = .ok (.iload 10, 2) := by decide +kernel
theorem dX12_suits_132 : decode cX12_suits 132 = .ok (.ifCond .eq 16, 3) := by decide +kernel
theorem dX12_suits_135 : decode cX12_suits 135 = .ok (.aload_n 0, 1) := by decide +kernel
theorem dX12_suits_136 : decode cX12_suits 136 = .ok (.iload_n 2, 1) := by decide +kernel
theorem dX12_suits_137 : decode cX12_suits 137 = .ok (.iload 8, 2) := by decide +kernel
theorem dX12_suits_139 : decode cX12_suits 139 = .ok (.iadd, 1) := by decide +kernel
theorem dX12_suits_140 : decode cX12_suits 140 = .ok (.iload 9, 2) := by decide +kernel
theorem dX12_suits_142 : decode cX12_suits 142 = .ok (.invokevirtual 407, 3) := by decide +kernel
theorem dX12_suits_145 : decode cX12_suits 145 = .ok (.goto 4, 3) := by decide +kernel
theorem dX12_suits_148 : decode cX12_suits 148 = .ok (.iconst 0, 1) := by decide +kernel
theorem dX12_suits_149 : decode cX12_suits 149 = .ok (.iadd, 1) := by decide +kernel
theorem dX12_suits_150 : decode cX12_suits 150 = .ok (.istore 7, 2) := by decide +kernel
theorem dX12_suits_152 : decode cX12_suits 152 = .ok (.iinc 8 1, 3) := by decide +kernel
theorem dX12_suits_155 : decode cX12_suits 155 = .ok (.goto (-140), 3) := by decide +kernel
theorem dX12_suits_158 : decode cX12_suits 158 = .ok (.iload 4, 2) := by decide +kernel
theorem dX12_suits_160 : decode cX12_suits 160 = .ok (.ifCond .eq 7, 3) := by decide +kernel
theorem dX12_suits_163 : decode cX12_suits 163 = .ok (.iconst (-1), 1) := by decide +kernel
theorem dX12_suits_164 : decode cX12_suits 164 = .ok (.goto 27, 3) := by decide +kernel
theorem dX12_suits_167 : decode cX12_suits 167 = .ok (.iload 5, 2) := by decide +kernel
theorem dX12_suits_169 : decode cX12_suits 169 = .ok (.ifCond .eq 8, 3) := by decide +kernel
theorem dX12_suits_172 : decode cX12_suits 172 = .ok (.iload 7, 2) := by decide +kernel
theorem dX12_suits_174 : decode cX12_suits 174 = .ok (.goto 17, 3) := by decide +kernel
theorem dX12_suits_177 : decode cX12_suits 177 = .ok (.iload 6, 2) := by decide +kernel
theorem dX12_suits_179 : decode cX12_suits 179 = .ok (.ifCond .eq 9, 3) := by decide +kernel
theorem dX12_suits_182 : decode cX12_suits 182 = .ok (.sipush 1000, 3) := by decide +kernel
theorem dX12_suits_185 : decode cX12_suits 185 = .ok (.goto 6, 3) := by decide +kernel
theorem dX12_suits_188 : decode cX12_suits 188 = .ok (.sipush 2000, 3) := by decide +kernel
theorem dX12_suits_191 : decode cX12_suits 191 = .ok (.ireturn, 1) := by decide +kernel
theorem dX12_found_0 : decode cX12_found 0 = .ok (.iconst (-1), 1) := by decide +kernel
theorem dX12_found_1 : decode cX12_found 1 = .ok (.istore 5, 2) := by decide +kernel
theorem dX12_found_3 : decode cX12_found 3 = .ok (.sipush 2000, 3) := by decide +kernel
theorem dX12_found_6 : decode cX12_found 6 = .ok (.istore 6, 2) := by decide +kernel
theorem dX12_found_8 : decode cX12_found 8 = .ok (.iconst 0, 1) := by decide +kernel
theorem dX12_found_9 : decode cX12_found 9 = .ok (.istore 7, 2) := by decide +kernel
theorem dX12_found_11 : decode cX12_found 11 = .ok (.iload_n 1, 1) := by decide +kernel
theorem dX12_found_12 : decode cX12_found 12 = .ok (.istore 8, 2) := by decide +kernel
theorem dX12_found_14 : decode cX12_found 14 = .ok (.iload 8, 2) := by decide +kernel
theorem dX12_found_16 : decode cX12_found 16 = .ok (.ifCond .lt 120, 3) := by decide +kernel
theorem dX12_found_19 : decode cX12_found 19 = .ok (.bipush 6, 2) := by decide +kernel
theorem dX12_found_21 : decode cX12_found 21 = .ok (.iload 8, 2) := by decide +kernel
theorem dX12_found_23 : decode cX12_found 23 = .ok (.imul, 1) := by decide +kernel
theorem dX12_found_24 : decode cX12_found 24 = .ok (.istore 9, 2) := by decide +kernel
theorem dX12_found_26 : decode cX12_found 26 = .ok (.iload 9, 2) := by decide +kernel
theorem dX12_found_28 : decode cX12_found 28 = .ok (.bipush 6, 2) := by decide +kernel
theorem dX12_found_30 : decode cX12_found 30 = .ok (.iload 8, 2) := by decide +kernel
theorem dX12_found_32 : decode cX12_found 32 = .ok (.imul, 1) := by decide +kernel
theorem dX12_found_33 : decode cX12_found 33 = .ok (.aload_n 0, 1) := by decide +kernel
theorem dX12_found_34 : decode cX12_found 34 = .ok (.getfield 84, 3) := by decide +kernel
theorem dX12_found_37 : decode cX12_found 37 = .ok (.iload 8, 2) := by decide +kernel
theorem dX12_found_39 : decode cX12_found 39 = .ok (.iaload, 1) := by decide +kernel
theorem dX12_found_40 : decode cX12_found 40 = .ok (.iadd, 1) := by decide +kernel
theorem dX12_found_41 : decode cX12_found 41 = .ok (.if_icmp .ge 83, 3) := by decide +kernel
theorem dX12_found_44 : decode cX12_found 44 = .ok (.aload_n 0, 1) := by decide +kernel
theorem dX12_found_45 : decode cX12_found 45 = .ok (.iload_n 1, 1) := by decide +kernel
theorem dX12_found_46 : decode cX12_found 46 = .ok (.iload 9, 2) := by decide +kernel
theorem dX12_found_48 : decode cX12_found 48 = .ok (.iload_n 2, 1) := by decide +kernel
theorem dX12_found_49 : decode cX12_found 49 = .ok (.iload 4, 2) := by decide +kernel
theorem dX12_found_51 : decode cX12_found 51 = .ok (.invokevirtual 410, 3) := by decide +kernel
theorem dX12_found_54 : decode cX12_found 54 = .ok (.ifCond .eq 64, 3) := by decide +kernel
theorem dX12_found_57 : decode cX12_found 57 = .ok (.aload_n 0, 1) := by decide +kernel
theorem dX12_found_58 : decode cX12_found 58 = .ok (.iload 9, 2) := by decide +kernel
theorem dX12_found_60 : decode cX12_found 60 = .ok (.iload_n 3, 1) := by decide +kernel
theorem dX12_found_61 : decode cX12_found 61 = .ok (.iload 4, 2) := by decide +kernel
theorem dX12_found_63 : decode cX12_found 63 = .ok (.invokevirtual 414, 3) := by decide +kernel
theorem dX12_found_66 : decode cX12_found 66 = .ok (.istore 10, 2) := by decide +kernel
theorem dX12_found_68 : decode cX12_found 68 = .ok (.iload 7, 2) := by decide +kernel
theorem dX12_found_70 : decode cX12_found 70 = .ok (.iload 10, 2) := by decide +kernel
theorem dX12_found_72 : decode cX12_found 72 = .ok (.sipush 1000, 3) := by decide +kernel
theorem dX12_found_75 : decode cX12_found 75 = .ok (.if_icmp .ne 7, 3) := by decide +kernel
theorem dX12_found_78 : decode cX12_found 78 = .ok (.iconst 1, 1) := by decide +kernel
theorem dX12_found_79 : decode cX12_found 79 = .ok (.goto 4, 3) := by decide +kernel
theorem dX12_found_82 : decode cX12_found 82 = .ok (.iconst 0, 1) := by decide +kernel
theorem dX12_found_83 : decode cX12_found 83 = .ok (.iadd, 1) := by decide +kernel
theorem dX12_found_84 : decode cX12_found 84 = .ok (.istore 7, 2) := by decide +kernel
theorem dX12_found_86 : decode cX12_found 86 = .ok (.iload 10, 2) := by decide +kernel
theorem dX12_found_88 : decode cX12_found 88 = .ok (.iload 6, 2) := by decide +kernel
theorem dX12_found_90 : decode cX12_found 90 = .ok (.if_icmp .ge 8, 3) := by decide +kernel
theorem dX12_found_93 : decode cX12_found 93 = .ok (.iload 9, 2) := by decide +kernel
theorem dX12_found_95 : decode cX12_found 95 = .ok (.goto 5, 3) := by decide +kernel
theorem dX12_found_98 : decode cX12_found 98 = .ok (.iload 5, 2) := by decide +kernel
theorem dX12_found_100 : decode cX12_found 100 = .ok (.istore 5, 2) := by decide +kernel
theorem dX12_found_102 : decode cX12_found 102 = .ok (.iload 10, 2) := by decide +kernel
theorem dX12_found_104 : decode cX12_found 104 = .ok (.iload 6, 2) := by decide +kernel
theorem dX12_found_106 : decode cX12_found 106 = .ok (.if_icmp .ge 8, 3) := by decide +kernel
theorem dX12_found_109 : decode cX12_found 109 = .ok (.iload 10, 2) := by decide +kernel
theorem dX12_found_111 : decode cX12_found 111 = .ok (.goto 5, 3) := by decide +kernel
theorem dX12_found_114 : decode cX12_found 114 = .ok (.iload 6, 2) := by decide +kernel
theorem dX12_found_116 : decode cX12_found 116 = .ok (.istore 6, 2) := by decide +kernel
theorem dX12_found_118 : decode cX12_found 118 = .ok (.iinc 9 1, 3) := by decide +kernel
theorem dX12_found_121 : decode cX12_found 121 = .ok (.goto (-95), 3) := by decide +kernel
theorem dX12_found_124 : decode cX12_found 124 = .ok (.aload_n 0, 1) := by decide +kernel
theorem dX12_found_125 : decode cX12_found 125 = .ok (.getfield 72, 3) := by decide +kernel
theorem dX12_found_128 : decode cX12_found 128 = .ok (.iload 8, 2) := by decide +kernel
theorem dX12_found_130 : decode cX12_found 130 = .ok (.iaload, 1) := by decide +kernel
theorem dX12_found_131 : decode cX12_found 131 = .ok (.istore 8, 2) := by decide +kernel
theorem dX12_found_133 : decode cX12_found 133 = .ok (.goto (-119), 3) := by decide +kernel
theorem dX12_found_136 : decode cX12_found 136 = .ok (.aload_n 0, 1) := by decide +kernel
theorem dX12_found_137 : decode cX12_found 137 = .ok (.iload 6, 2) := by decide +kernel
theorem dX12_found_139 : decode cX12_found 139 = .ok (.sipush 2000, 3) := by decide +kernel
theorem dX12_found_142 : decode cX12_found 142 = .ok (.if_icmp .ne 8, 3) := by decide +kernel
theorem dX12_found_145 : decode cX12_found 145 = .ok (.bipush 8, 2) := by decide +kernel
theorem dX12_found_147 : decode cX12_found 147 = .ok (.goto 26, 3) := by decide +kernel
theorem dX12_found_150 : decode cX12_found 150 = .ok (.iload 6, 2) := by decide +kernel
theorem dX12_found_152 : decode cX12_found 152 = .ok (.sipush 1000, 3) := by decide +kernel
theorem dX12_found_155 : decode cX12_found 155 = .ok (.if_icmp .ne 14, 3) := by decide +kernel
theorem dX12_found_158 : decode cX12_found 158 = .ok (.iload 7, 2) := by decide +kernel
theorem dX12_found_160 : decode cX12_found 160 = .ok (.iconst 1, 1) := by decide +kernel
theorem dX12_found_161 : decode cX12_found 161 = .ok (.if_icmp .le 8, 3) := by decide +kernel
theorem dX12_found_164 : decode cX12_found 164 = .ok (.bipush 7, 2) := by decide +kernel
theorem dX12_found_166 : decode cX12_found 166 = .ok (.goto 7, 3) := by decide +kernel
theorem dX12_found_169 : decode cX12_found 169 = .ok (.aload_n 0, 1) := by decide +kernel
theorem dX12_found_170 : decode cX12_found 170 = .ok (.getfield 340, 3) := by decide +kernel
theorem dX12_found_173 : decode cX12_found 173 = .ok (.putfield 340, 3) := by decide +kernel
theorem dX12_found_176 : decode cX12_found 176 = .ok (.iload 5, 2) := by decide +kernel
theorem dX12_found_178 : decode cX12_found 178 = .ok (.ireturn, 1) := by decide +kernel
theorem dX12_act_0 : decode cX12_act 0 = .ok (.iload_n 2, 1) := by decide +kernel
theorem dX12_act_1 : decode cX12_act 1 = .ok (.iconst 1, 1) := by decide +kernel
theorem dX12_act_2 : decode cX12_act 2 = .ok (.isub, 1) := by decide +kernel
theorem dX12_act_3 : decode cX12_act 3 = .ok (.istore 4, 2) := by decide +kernel
theorem dX12_act_5 : decode cX12_act 5 = .ok (.aload_n 0, 1) := by decide +kernel
theorem dX12_act_6 : decode cX12_act 6 = .ok (.getfield 96, 3) := by decide +kernel
theorem dX12_act_9 : decode cX12_act 9 = .ok (.iload_n 1, 1) := by decide +kernel
theorem dX12_act_10 : decode cX12_act 10 = .ok (.iaload, 1) := by decide +kernel
theorem dX12_act_11 : decode cX12_act 11 = .ok (.istore 5, 2) := by decide +kernel
theorem dX12_act_13 : decode cX12_act 13 = .ok (.iload 5, 2) := by decide +kernel
theorem dX12_act_15 : decode cX12_act 15 = .ok (.ifCond .ne 21, 3) := by decide +kernel
theorem dX12_act_18 : decode cX12_act 18 = .ok (.aload_n 0, 1) := by decide +kernel
theorem dX12_act_19 : decode cX12_act 19 = .ok (.iload 4, 2) := by decide +kernel
theorem dX12_act_21 : decode cX12_act 21 = .ok (.iconst 2, 1) := by decide +kernel
theorem dX12_act_22 : decode cX12_act 22 = .ok (.aload_n 0, 1) := by decide +kernel
theorem dX12_act_23 : decode cX12_act 23 = .ok (.getfield 99, 3) := by decide +kernel
theorem dX12_act_26 : decode cX12_act 26 = .ok (.iload_n 1, 1) := by decide +kernel
theorem dX12_act_27 : decode cX12_act 27 = .ok (.iaload, 1) := by decide +kernel
theorem dX12_act_28 : decode cX12_act 28 = .ok (.i2l, 1) := by decide +kernel
theorem dX12_act_29 : decode cX12_act 29 = .ok (.dconst 0, 1) := by decide +kernel
theorem dX12_act_30 : decode cX12_act 30 = .ok (.invokevirtual 314, 3) := by decide +kernel
theorem dX12_act_33 : decode cX12_act 33 = .ok (.goto 128, 3) := by decide +kernel
theorem dX12_act_36 : decode cX12_act 36 = .ok (.iload 5, 2) := by decide +kernel
theorem dX12_act_38 : decode cX12_act 38 = .ok (.iconst 1, 1) := by decide +kernel
theorem dX12_act_39 : decode cX12_act 39 = .ok (.if_icmp .eq 9, 3) := by decide +kernel
theorem dX12_act_42 : decode cX12_act 42 = .ok (.iload 5, 2) := by decide +kernel
theorem dX12_act_44 : decode cX12_act 44 = .ok (.iconst 2, 1) := by decide +kernel
theorem dX12_act_45 : decode cX12_act 45 = .ok (.if_icmp .ne 36, 3) := by decide +kernel
theorem dX12_act_48 : decode cX12_act 48 = .ok (.iload_n 3, 1) := by decide +kernel
theorem dX12_act_49 : decode cX12_act 49 = .ok (.iload 5, 2) := by decide +kernel
theorem dX12_act_51 : decode cX12_act 51 = .ok (.if_icmp .lt 18, 3) := by decide +kernel
theorem dX12_act_54 : decode cX12_act 54 = .ok (.aload_n 0, 1) := by decide +kernel
theorem dX12_act_55 : decode cX12_act 55 = .ok (.iload_n 2, 1) := by decide +kernel
theorem dX12_act_56 : decode cX12_act 56 = .ok (.iload 5, 2) := by decide +kernel
theorem dX12_act_58 : decode cX12_act 58 = .ok (.iadd, 1) := by decide +kernel
theorem dX12_act_59 : decode cX12_act 59 = .ok (.iconst 1, 1) := by decide +kernel
theorem dX12_act_60 : decode cX12_act 60 = .ok (.isub, 1) := by decide +kernel
theorem dX12_act_61 : decode cX12_act 61 = .ok (.iload 4, 2) := by decide +kernel
theorem dX12_act_63 : decode cX12_act 63 = .ok (.invokevirtual 401, 3) := by decide +kernel
theorem dX12_act_66 : decode cX12_act 66 = .ok (.goto 95, 3) := by decide +kernel
theorem dX12_act_69 : decode cX12_act 69 = .ok (.aload_n 0, 1) := by decide +kernel
theorem dX12_act_70 : decode cX12_act 70 = .ok (.iload 4, 2) := by decide +kernel
theorem dX12_act_72 : decode cX12_act 72 = .ok (.iconst 0, 1) := by decide +kernel
theorem dX12_act_73 : decode cX12_act 73 = .ok (.lconst 0, 1) := by decide +kernel
theorem dX12_act_74 : decode cX12_act 74 = .ok (.dconst 0, 1) := by decide +kernel
theorem dX12_act_75 : decode cX12_act 75 = .ok (.invokevirtual 314, 3) := by decide +kernel
theorem dX12_act_78 : decode cX12_act 78 = .ok (.goto 83, 3) := by decide +kernel
theorem dX12_act_81 : decode cX12_act 81 = .ok (.iload 5, 2) := by decide +kernel
theorem dX12_act_83 : decode cX12_act 83 = .ok (.iconst 3, 1) := by decide +kernel
theorem dX12_act_84 : decode cX12_act 84 = .ok (.if_icmp .ne 36, 3) := by decide +kernel
theorem dX12_act_87 : decode cX12_act 87 = .ok (.iload_n 3, 1) := by decide +kernel
theorem dX12_act_88 : decode cX12_act 88 = .ok (.iconst 2, 1) := by decide +kernel
theorem dX12_act_89 : decode cX12_act 89 = .ok (.if_icmp .ge 11, 3) := by decide +kernel
theorem dX12_act_92 : decode cX12_act 92 = .ok (.aload_n 0, 1) := by decide +kernel
theorem dX12_act_93 : decode cX12_act 93 = .ok (.iconst 1, 1) := by decide +kernel
theorem dX12_act_94 : decode cX12_act 94 = .ok (.putfield 340, 3) := by decide +kernel
theorem dX12_act_97 : decode cX12_act 97 = .ok (.goto 64, 3) := by decide +kernel
theorem dX12_act_100 : decode cX12_act 100 = .ok (.aload_n 0, 1) := by decide +kernel
theorem dX12_act_101 : decode cX12_act 101 = .ok (.iload_n 2, 1) := by decide +kernel
theorem dX12_act_102 : decode cX12_act 102 = .ok (.iload_n 2, 1) := by decide +kernel
theorem dX12_act_103 : decode cX12_act 103 = .ok (.iconst 1, 1) := by decide +kernel
theorem dX12_act_104 : decode cX12_act 104 = .ok (.iadd, 1) := by decide +kernel
theorem dX12_act_105 : decode cX12_act 105 = .ok (.bipush 16, 2) := by decide +kernel
theorem dX12_act_107 : decode cX12_act 107 = .ok (.invokevirtual 418, 3) := by decide +kernel
theorem dX12_act_110 : decode cX12_act 110 = .ok (.aload_n 0, 1) := by decide +kernel
theorem dX12_act_111 : decode cX12_act 111 = .ok (.iload_n 2, 1) := by decide +kernel
theorem dX12_act_112 : decode cX12_act 112 = .ok (.iload 4, 2) := by decide +kernel
theorem dX12_act_114 : decode cX12_act 114 = .ok (.invokevirtual 401, 3) := by decide +kernel
theorem dX12_act_117 : decode cX12_act 117 = .ok (.goto 44, 3) := by decide +kernel
theorem dX12_act_120 : decode cX12_act 120 = .ok (.iload 5, 2) := by decide +kernel
theorem dX12_act_122 : decode cX12_act 122 = .ok (.iconst 5, 1) := by decide +kernel
theorem dX12_act_123 : decode cX12_act 123 = .ok (.if_icmp .ne 38, 3) := by decide +kernel
theorem dX12_act_126 : decode cX12_act 126 = .ok (.aload_n 0, 1) := by decide +kernel
theorem dX12_act_127 : decode cX12_act 127 = .ok (.iload 4, 2) := by decide +kernel
theorem dX12_act_129 : decode cX12_act 129 = .ok (.aload_n 0, 1) := by decide +kernel
theorem dX12_act_130 : decode cX12_act 130 = .ok (.getfield 99, 3) := by decide +kernel
theorem dX12_act_133 : decode cX12_act 133 = .ok (.iload_n 1, 1) := by decide +kernel
theorem dX12_act_134 : decode cX12_act 134 = .ok (.iaload, 1) := by decide +kernel
theorem dX12_act_135 : decode cX12_act 135 = .ok (.invokevirtual 398, 3) := by decide +kernel
theorem dX12_act_138 : decode cX12_act 138 = .ok (.istore 6, 2) := by decide +kernel
theorem dX12_act_140 : decode cX12_act 140 = .ok (.iload 6, 2) := by decide +kernel
theorem dX12_act_142 : decode cX12_act 142 = .ok (.ifCond .ge 11, 3) := by decide +kernel
theorem dX12_act_145 : decode cX12_act 145 = .ok (.aload_n 0, 1) := by decide +kernel
theorem dX12_act_146 : decode cX12_act 146 = .ok (.iconst 5, 1) := by decide +kernel
theorem dX12_act_147 : decode cX12_act 147 = .ok (.putfield 340, 3) := by decide +kernel
theorem dX12_act_150 : decode cX12_act 150 = .ok (.goto 11, 3) := by decide +kernel
theorem dX12_act_153 : decode cX12_act 153 = .ok (.aload_n 0, 1) := by decide +kernel
theorem dX12_act_154 : decode cX12_act 154 = .ok (.iload 6, 2) := by decide +kernel
theorem dX12_act_156 : decode cX12_act 156 = .ok (.iload 4, 2) := by decide +kernel
theorem dX12_act_158 : decode cX12_act 158 = .ok (.invokevirtual 401, 3) := by decide +kernel
theorem dX12_act_161 : decode cX12_act 161 = .ok (.return_, 1) := by decide +kernel
theorem dX12_calls_0 : decode cX12_calls 0 = .ok (.aload_n 0, 1) := by decide +kernel
theorem dX12_calls_1 : decode cX12_calls 1 = .ok (.getfield 311, 3) := by decide +kernel
theorem dX12_calls_4 : decode cX12_calls 4 = .ok (.iload_n 2, 1) := by decide +kernel
theorem dX12_calls_5 : decode cX12_calls 5 = .ok (.isub, 1) := by decide +kernel
theorem dX12_calls_6 : decode cX12_calls 6 = .ok (.istore_n 3, 1) := by decide +kernel
theorem dX12_calls_7 : decode cX12_calls 7 = .ok (.aload_n 0, 1) := by decide +kernel
theorem dX12_calls_8 : decode cX12_calls 8 = .ok (.iload_n 3, 1) := by decide +kernel
theorem dX12_calls_9 : decode cX12_calls 9 = .ok (.putfield 311, 3) := by decide +kernel
theorem dX12_calls_12 : decode cX12_calls 12 = .ok (.aload_n 0, 1) := by decide +kernel
theorem dX12_calls_13 : decode cX12_calls 13 = .ok (.getfield 111, 3) := by decide +kernel
theorem dX12_calls_16 : decode cX12_calls 16 = .ok (.iload_n 3, 1) := by decide +kernel
theorem dX12_calls_17 : decode cX12_calls 17 = .ok (.iconst 1, 1) := by decide +kernel
theorem dX12_calls_18 : decode cX12_calls 18 = .ok (.isub, 1) := by decide +kernel
theorem dX12_calls_19 : decode cX12_calls 19 = .ok (.iaload, 1) := by decide +kernel
theorem dX12_calls_20 : decode cX12_calls 20 = .ok (.bipush 8, 2) := by decide +kernel
theorem dX12_calls_22 : decode cX12_calls 22 = .ok (.if_icmp .ge 9, 3) := by decide +kernel
theorem dX12_calls_25 : decode cX12_calls 25 = .ok (.aload_n 0, 1) := by decide +kernel
theorem dX12_calls_26 : decode cX12_calls 26 = .ok (.iconst 5, 1) := by decide +kernel
theorem dX12_calls_27 : decode cX12_calls 27 = .ok (.putfield 340, 3) := by decide +kernel
theorem dX12_calls_30 : decode cX12_calls 30 = .ok (.return_, 1) := by decide +kernel
theorem dX12_calls_31 : decode cX12_calls 31 = .ok (.aload_n 0, 1) := by decide +kernel
theorem dX12_calls_32 : decode cX12_calls 32 = .ok (.aload_n 0, 1) := by decide +kernel
theorem dX12_calls_33 : decode cX12_calls 33 = .ok (.getfield 111, 3) := by decide +kernel
theorem dX12_calls_36 : decode cX12_calls 36 = .ok (.iload_n 3, 1) := by decide +kernel
theorem dX12_calls_37 : decode cX12_calls 37 = .ok (.iconst 1, 1) := by decide +kernel
theorem dX12_calls_38 : decode cX12_calls 38 = .ok (.isub, 1) := by decide +kernel
theorem dX12_calls_39 : decode cX12_calls 39 = .ok (.iaload, 1) := by decide +kernel
theorem dX12_calls_40 : decode cX12_calls 40 = .ok (.bipush 8, 2) := by decide +kernel
theorem dX12_calls_42 : decode cX12_calls 42 = .ok (.isub, 1) := by decide +kernel
theorem dX12_calls_43 : decode cX12_calls 43 = .ok (.iload_n 1, 1) := by decide +kernel
theorem dX12_calls_44 : decode cX12_calls 44 = .ok (.iload_n 3, 1) := by decide +kernel
theorem dX12_calls_45 : decode cX12_calls 45 = .ok (.iload_n 2, 1) := by decide +kernel
theorem dX12_calls_46 : decode cX12_calls 46 = .ok (.invokevirtual 421, 3) := by decide +kernel
theorem dX12_calls_49 : decode cX12_calls 49 = .ok (.istore 4, 2) := by decide +kernel
theorem dX12_calls_51 : decode cX12_calls 51 = .ok (.iconst 0, 1) := by decide +kernel
theorem dX12_calls_52 : decode cX12_calls 52 = .ok (.istore 5, 2) := by decide +kernel
theorem dX12_calls_54 : decode cX12_calls 54 = .ok (.iload 5, 2) := by decide +kernel
theorem dX12_calls_56 : decode cX12_calls 56 = .ok (.iload_n 2, 1) := by decide +kernel
theorem dX12_calls_57 : decode cX12_calls 57 = .ok (.if_icmp .ge 46, 3) := by decide +kernel
theorem dX12_calls_60 : decode cX12_calls 60 = .ok (.aload_n 0, 1) := by decide +kernel
theorem dX12_calls_61 : decode cX12_calls 61 = .ok (.getfield 340, 3) := by decide +kernel
theorem dX12_calls_64 : decode cX12_calls 64 = .ok (.ifCond .ne 39, 3) := by decide +kernel
theorem dX12_calls_67 : decode cX12_calls 67 = .ok (.aload_n 0, 1) := by decide +kernel
theorem dX12_calls_68 : decode cX12_calls 68 = .ok (.iload_n 3, 1) := by decide +kernel
theorem dX12_calls_69 : decode cX12_calls 69 = .ok (.iload 5, 2) := by decide +kernel
theorem dX12_calls_71 : decode cX12_calls 71 = .ok (.iadd, 1) := by decide +kernel
theorem dX12_calls_72 : decode cX12_calls 72 = .ok (.iload 5, 2) := by decide +kernel
theorem dX12_calls_74 : decode cX12_calls 74 = .ok (.ifCond .ne 13, 3) := by decide +kernel
theorem dX12_calls_77 : decode cX12_calls 77 = .ok (.aload_n 0, 1) := by decide +kernel
theorem dX12_calls_78 : decode cX12_calls 78 = .ok (.getfield 90, 3) := by decide +kernel
theorem dX12_calls_81 : decode cX12_calls 81 = .ok (.iload 4, 2) := by decide +kernel
theorem dX12_calls_83 : decode cX12_calls 83 = .ok (.iaload, 1) := by decide +kernel
theorem dX12_calls_84 : decode cX12_calls 84 = .ok (.goto 10, 3) := by decide +kernel
theorem dX12_calls_87 : decode cX12_calls 87 = .ok (.aload_n 0, 1) := by decide +kernel
theorem dX12_calls_88 : decode cX12_calls 88 = .ok (.getfield 93, 3) := by decide +kernel
theorem dX12_calls_91 : decode cX12_calls 91 = .ok (.iload 4, 2) := by decide +kernel
theorem dX12_calls_93 : decode cX12_calls 93 = .ok (.iaload, 1) := by decide +kernel
theorem dX12_calls_94 : decode cX12_calls 94 = .ok (.invokevirtual 425, 3) := by decide +kernel
theorem dX12_calls_97 : decode cX12_calls 97 = .ok (.iinc 5 1, 3) := by decide +kernel
theorem dX12_calls_100 : decode cX12_calls 100 = .ok (.goto (-46), 3) := by decide +kernel
theorem dX12_calls_103 : decode cX12_calls 103 = .ok (.aload_n 0, 1) := by decide +kernel
theorem dX12_calls_104 : decode cX12_calls 104 = .ok (.getfield 340, 3) := by decide +kernel
theorem dX12_calls_107 : decode cX12_calls 107 = .ok (.ifCond .ne 11, 3) := by decide +kernel
theorem dX12_calls_110 : decode cX12_calls 110 = .ok (.aload_n 0, 1) := by decide +kernel
theorem dX12_calls_111 : decode cX12_calls 111 = .ok (.iload 4, 2) := by decide +kernel
theorem dX12_calls_113 : decode cX12_calls 113 = .ok (.iload_n 3, 1) := by decide +kernel
theorem dX12_calls_114 : decode cX12_calls 114 = .ok (.iload_n 2, 1) := by decide +kernel
theorem dX12_calls_115 : decode cX12_calls 115 = .ok (.invokevirtual 428, 3) := by decide +kernel
theorem dX12_calls_118 : decode cX12_calls 118 = .ok (.return_, 1) := by decide +kernel
theorem dX12_placeOf_0 : decode cX12_placeOf 0 = .ok (.iconst (-1), 1) := by decide +kernel
theorem dX12_placeOf_1 : decode cX12_placeOf 1 = .ok (.istore_n 2, 1) := by decide +kernel
theorem dX12_placeOf_2 : decode cX12_placeOf 2 = .ok (.iconst 0, 1) := by decide +kernel
theorem dX12_placeOf_3 : decode cX12_placeOf 3 = .ok (.istore_n 3, 1) := by decide +kernel
theorem dX12_placeOf_4 : decode cX12_placeOf 4 = .ok (.iload_n 3, 1) := by decide +kernel
theorem dX12_placeOf_5 : decode cX12_placeOf 5 = .ok (.aload_n 0, 1) := by decide +kernel
theorem dX12_placeOf_6 : decode cX12_placeOf 6 = .ok (.getfield 431, 3) := by decide +kernel
theorem dX12_placeOf_9 : decode cX12_placeOf 9 = .ok (.if_icmp .ge 28, 3) := by decide +kernel
theorem dX12_placeOf_12 : decode cX12_placeOf 12 = .ok (.aload_n 0, 1) := by decide +kernel
theorem dX12_placeOf_13 : decode cX12_placeOf 13 = .ok (.getfield 108, 3) := by decide +kernel
theorem dX12_placeOf_16 : decode cX12_placeOf 16 = .ok (.iload_n 3, 1) := by decide +kernel
theorem dX12_placeOf_17 : decode cX12_placeOf 17 = .ok (.iaload, 1) := by decide +kernel
theorem dX12_placeOf_18 : decode cX12_placeOf 18 = .ok (.iload_n 1, 1) := by decide +kernel
theorem dX12_placeOf_19 : decode cX12_placeOf 19 = .ok (.if_icmp .ne 10, 3) := by decide +kernel
theorem dX12_placeOf_22 : decode cX12_placeOf 22 = .ok (.bipush 64, 2) := by decide +kernel
theorem dX12_placeOf_24 : decode cX12_placeOf 24 = .ok (.iload_n 3, 1) := by decide +kernel
theorem dX12_placeOf_25 : decode cX12_placeOf 25 = .ok (.iadd, 1) := by decide +kernel
theorem dX12_placeOf_26 : decode cX12_placeOf 26 = .ok (.goto 4, 3) := by decide +kernel
theorem dX12_placeOf_29 : decode cX12_placeOf 29 = .ok (.iload_n 2, 1) := by decide +kernel
theorem dX12_placeOf_30 : decode cX12_placeOf 30 = .ok (.istore_n 2, 1) := by decide +kernel
theorem dX12_placeOf_31 : decode cX12_placeOf 31 = .ok (.iinc 3 1, 3) := by decide +kernel
theorem dX12_placeOf_34 : decode cX12_placeOf 34 = .ok (.goto (-30), 3) := by decide +kernel
theorem dX12_placeOf_37 : decode cX12_placeOf 37 = .ok (.iload_n 2, 1) := by decide +kernel
theorem dX12_placeOf_38 : decode cX12_placeOf 38 = .ok (.ireturn, 1) := by decide +kernel
theorem dX12_placeFor_0 : decode cX12_placeFor 0 = .ok (.aload_n 0, 1) := by decide +kernel
theorem dX12_placeFor_1 : decode cX12_placeFor 1 = .ok (.iload_n 1, 1) := by decide +kernel
theorem dX12_placeFor_2 : decode cX12_placeFor 2 = .ok (.invokevirtual 434, 3) := by decide +kernel
theorem dX12_placeFor_5 : decode cX12_placeFor 5 = .ok (.istore_n 2, 1) := by decide +kernel
theorem dX12_placeFor_6 : decode cX12_placeFor 6 = .ok (.iload_n 2, 1) := by decide +kernel
theorem dX12_placeFor_7 : decode cX12_placeFor 7 = .ok (.ifCond .ge 40, 3) := by decide +kernel
theorem dX12_placeFor_10 : decode cX12_placeFor 10 = .ok (.aload_n 0, 1) := by decide +kernel
theorem dX12_placeFor_11 : decode cX12_placeFor 11 = .ok (.getfield 431, 3) := by decide +kernel
theorem dX12_placeFor_14 : decode cX12_placeFor 14 = .ok (.bipush 12, 2) := by decide +kernel
theorem dX12_placeFor_16 : decode cX12_placeFor 16 = .ok (.if_icmp .ge 31, 3) := by decide +kernel
theorem dX12_placeFor_19 : decode cX12_placeFor 19 = .ok (.aload_n 0, 1) := by decide +kernel
theorem dX12_placeFor_20 : decode cX12_placeFor 20 = .ok (.getfield 108, 3) := by decide +kernel
theorem dX12_placeFor_23 : decode cX12_placeFor 23 = .ok (.aload_n 0, 1) := by decide +kernel
theorem dX12_placeFor_24 : decode cX12_placeFor 24 = .ok (.getfield 431, 3) := by decide +kernel
theorem dX12_placeFor_27 : decode cX12_placeFor 27 = .ok (.iload_n 1, 1) := by decide +kernel
theorem dX12_placeFor_28 : decode cX12_placeFor 28 = .ok (.iastore, 1) := by decide +kernel
theorem dX12_placeFor_29 : decode cX12_placeFor 29 = .ok (.bipush 64, 2) := by decide +kernel
theorem dX12_placeFor_31 : decode cX12_placeFor 31 = .ok (.aload_n 0, 1) := by decide +kernel
theorem dX12_placeFor_32 : decode cX12_placeFor 32 = .ok (.getfield 431, 3) := by decide +kernel
theorem dX12_placeFor_35 : decode cX12_placeFor 35 = .ok (.iadd, 1) := by decide +kernel
theorem dX12_placeFor_36 : decode cX12_placeFor 36 = .ok (.istore_n 2, 1) := by decide +kernel
theorem dX12_placeFor_37 : decode cX12_placeFor 37 = .ok (.aload_n 0, 1) := by decide +kernel
theorem dX12_placeFor_38 : decode cX12_placeFor 38 = .ok (.dup, 1) := by decide +kernel
theorem dX12_placeFor_39 : decode cX12_placeFor 39 = .ok (.getfield 431, 3) := by decide +kernel
theorem dX12_placeFor_42 : decode cX12_placeFor 42 = .ok (.iconst 1, 1) := by decide +kernel
theorem dX12_placeFor_43 : decode cX12_placeFor 43 = .ok (.iadd, 1) := by decide +kernel
theorem dX12_placeFor_44 : decode cX12_placeFor 44 = .ok (.putfield 431, 3) := by decide +kernel
theorem dX12_placeFor_47 : decode cX12_placeFor 47 = .ok (.iload_n 2, 1) := by decide +kernel
theorem dX12_placeFor_48 : decode cX12_placeFor 48 = .ok (.ireturn, 1) := by decide +kernel
theorem dX12_typeAt_0 : decode cX12_typeAt 0 = .ok (.iload_n 1, 1) := by decide +kernel
theorem dX12_typeAt_1 : decode cX12_typeAt 1 = .ok (.bipush 80, 2) := by decide +kernel
theorem dX12_typeAt_3 : decode cX12_typeAt 3 = .ok (.isub, 1) := by decide +kernel
theorem dX12_typeAt_4 : decode cX12_typeAt 4 = .ok (.bipush 30, 2) := by decide +kernel
theorem dX12_typeAt_6 : decode cX12_typeAt 6 = .ok (.irem, 1) := by decide +kernel
theorem dX12_typeAt_7 : decode cX12_typeAt 7 = .ok (.istore_n 2, 1) := by decide +kernel
theorem dX12_typeAt_8 : decode cX12_typeAt 8 = .ok (.aload_n 0, 1) := by decide +kernel
theorem dX12_typeAt_9 : decode cX12_typeAt 9 = .ok (.getfield 81, 3) := by decide +kernel
theorem dX12_typeAt_12 : decode cX12_typeAt 12 = .ok (.iload_n 2, 1) := by decide +kernel
theorem dX12_typeAt_13 : decode cX12_typeAt 13 = .ok (.iaload, 1) := by decide +kernel
theorem dX12_typeAt_14 : decode cX12_typeAt 14 = .ok (.ireturn, 1) := by decide +kernel
theorem dX12_assigns_0 : decode cX12_assigns 0 = .ok (.aload_n 0, 1) := by decide +kernel
theorem dX12_assigns_1 : decode cX12_assigns 1 = .ok (.getfield 311, 3) := by decide +kernel
theorem dX12_assigns_4 : decode cX12_assigns 4 = .ok (.iconst 1, 1) := by decide +kernel
theorem dX12_assigns_5 : decode cX12_assigns 5 = .ok (.isub, 1) := by decide +kernel
theorem dX12_assigns_6 : decode cX12_assigns 6 = .ok (.istore_n 3, 1) := by decide +kernel
theorem dX12_assigns_7 : decode cX12_assigns 7 = .ok (.iload_n 1, 1) := by decide +kernel
theorem dX12_assigns_8 : decode cX12_assigns 8 = .ok (.bipush 38, 2) := by decide +kernel
theorem dX12_assigns_10 : decode cX12_assigns 10 = .ok (.if_icmp .ne 32, 3) := by decide +kernel
theorem dX12_assigns_13 : decode cX12_assigns 13 = .ok (.aload_n 0, 1) := by decide +kernel
theorem dX12_assigns_14 : decode cX12_assigns 14 = .ok (.iload_n 2, 1) := by decide +kernel
theorem dX12_assigns_15 : decode cX12_assigns 15 = .ok (.invokevirtual 437, 3) := by decide +kernel
theorem dX12_assigns_18 : decode cX12_assigns 18 = .ok (.istore 4, 2) := by decide +kernel
theorem dX12_assigns_20 : decode cX12_assigns 20 = .ok (.iload 4, 2) := by decide +kernel
theorem dX12_assigns_22 : decode cX12_assigns 22 = .ok (.ifCond .ge 12, 3) := by decide +kernel
theorem dX12_assigns_25 : decode cX12_assigns 25 = .ok (.aload_n 0, 1) := by decide +kernel
theorem dX12_assigns_26 : decode cX12_assigns 26 = .ok (.bipush 11, 2) := by decide +kernel
theorem dX12_assigns_28 : decode cX12_assigns 28 = .ok (.putfield 340, 3) := by decide +kernel
theorem dX12_assigns_31 : decode cX12_assigns 31 = .ok (.goto 10, 3) := by decide +kernel
theorem dX12_assigns_34 : decode cX12_assigns 34 = .ok (.aload_n 0, 1) := by decide +kernel
theorem dX12_assigns_35 : decode cX12_assigns 35 = .ok (.iload_n 3, 1) := by decide +kernel
theorem dX12_assigns_36 : decode cX12_assigns 36 = .ok (.iload 4, 2) := by decide +kernel
theorem dX12_assigns_38 : decode cX12_assigns 38 = .ok (.invokevirtual 401, 3) := by decide +kernel
theorem dX12_assigns_41 : decode cX12_assigns 41 = .ok (.return_, 1) := by decide +kernel
theorem dX12_assigns_42 : decode cX12_assigns 42 = .ok (.aload_n 0, 1) := by decide +kernel
theorem dX12_assigns_43 : decode cX12_assigns 43 = .ok (.iload_n 3, 1) := by decide +kernel
theorem dX12_assigns_44 : decode cX12_assigns 44 = .ok (.iconst 1, 1) := by decide +kernel
theorem dX12_assigns_45 : decode cX12_assigns 45 = .ok (.isub, 1) := by decide +kernel
theorem dX12_assigns_46 : decode cX12_assigns 46 = .ok (.iload_n 2, 1) := by decide +kernel
theorem dX12_assigns_47 : decode cX12_assigns 47 = .ok (.invokevirtual 398, 3) := by decide +kernel
theorem dX12_assigns_50 : decode cX12_assigns 50 = .ok (.istore 4, 2) := by decide +kernel
theorem dX12_assigns_52 : decode cX12_assigns 52 = .ok (.aload_n 0, 1) := by decide +kernel
theorem dX12_assigns_53 : decode cX12_assigns 53 = .ok (.iload_n 3, 1) := by decide +kernel
theorem dX12_assigns_54 : decode cX12_assigns 54 = .ok (.aload_n 0, 1) := by decide +kernel
theorem dX12_assigns_55 : decode cX12_assigns 55 = .ok (.iload 4, 2) := by decide +kernel
theorem dX12_assigns_57 : decode cX12_assigns 57 = .ok (.invokevirtual 440, 3) := by decide +kernel
theorem dX12_assigns_60 : decode cX12_assigns 60 = .ok (.invokevirtual 425, 3) := by decide +kernel
theorem dX12_assigns_63 : decode cX12_assigns 63 = .ok (.aload_n 0, 1) := by decide +kernel
theorem dX12_assigns_64 : decode cX12_assigns 64 = .ok (.getfield 340, 3) := by decide +kernel
theorem dX12_assigns_67 : decode cX12_assigns 67 = .ok (.ifCond .ne 28, 3) := by decide +kernel
theorem dX12_assigns_70 : decode cX12_assigns 70 = .ok (.aload_n 0, 1) := by decide +kernel
theorem dX12_assigns_71 : decode cX12_assigns 71 = .ok (.iload_n 3, 1) := by decide +kernel
theorem dX12_assigns_72 : decode cX12_assigns 72 = .ok (.iload 4, 2) := by decide +kernel
theorem dX12_assigns_74 : decode cX12_assigns 74 = .ok (.invokevirtual 401, 3) := by decide +kernel
theorem dX12_assigns_77 : decode cX12_assigns 77 = .ok (.aload_n 0, 1) := by decide +kernel
theorem dX12_assigns_78 : decode cX12_assigns 78 = .ok (.iload_n 3, 1) := by decide +kernel
theorem dX12_assigns_79 : decode cX12_assigns 79 = .ok (.iload_n 3, 1) := by decide +kernel
theorem dX12_assigns_80 : decode cX12_assigns 80 = .ok (.iconst 1, 1) := by decide +kernel
theorem dX12_assigns_81 : decode cX12_assigns 81 = .ok (.isub, 1) := by decide +kernel
theorem dX12_assigns_82 : decode cX12_assigns 82 = .ok (.invokevirtual 401, 3) := by decide +kernel
theorem dX12_assigns_85 : decode cX12_assigns 85 = .ok (.aload_n 0, 1) := by decide +kernel
theorem dX12_assigns_86 : decode cX12_assigns 86 = .ok (.dup, 1) := by decide +kernel
theorem dX12_assigns_87 : decode cX12_assigns 87 = .ok (.getfield 311, 3) := by decide +kernel
theorem dX12_assigns_90 : decode cX12_assigns 90 = .ok (.iconst 1, 1) := by decide +kernel
theorem dX12_assigns_91 : decode cX12_assigns 91 = .ok (.isub, 1) := by decide +kernel
theorem dX12_assigns_92 : decode cX12_assigns 92 = .ok (.putfield 311, 3) := by decide +kernel
theorem dX12_assigns_95 : decode cX12_assigns 95 = .ok (.return_, 1) := by decide +kernel
theorem dX12_aim_0 : decode cX12_aim 0 = .ok (.aload_n 0, 1) := by decide +kernel
theorem dX12_aim_1 : decode cX12_aim 1 = .ok (.getfield 311, 3) := by decide +kernel
theorem dX12_aim_4 : decode cX12_aim 4 = .ok (.iconst 1, 1) := by decide +kernel
theorem dX12_aim_5 : decode cX12_aim 5 = .ok (.isub, 1) := by decide +kernel
theorem dX12_aim_6 : decode cX12_aim 6 = .ok (.istore_n 2, 1) := by decide +kernel
theorem dX12_aim_7 : decode cX12_aim 7 = .ok (.aload_n 0, 1) := by decide +kernel
theorem dX12_aim_8 : decode cX12_aim 8 = .ok (.aload_n 0, 1) := by decide +kernel
theorem dX12_aim_9 : decode cX12_aim 9 = .ok (.getfield 111, 3) := by decide +kernel
theorem dX12_aim_12 : decode cX12_aim 12 = .ok (.iload_n 2, 1) := by decide +kernel
theorem dX12_aim_13 : decode cX12_aim 13 = .ok (.iaload, 1) := by decide +kernel
theorem dX12_aim_14 : decode cX12_aim 14 = .ok (.ifCond .ne 7, 3) := by decide +kernel
theorem dX12_aim_17 : decode cX12_aim 17 = .ok (.iconst 4, 1) := by decide +kernel
theorem dX12_aim_18 : decode cX12_aim 18 = .ok (.goto 20, 3) := by decide +kernel
theorem dX12_aim_21 : decode cX12_aim 21 = .ok (.aload_n 0, 1) := by decide +kernel
theorem dX12_aim_22 : decode cX12_aim 22 = .ok (.iload_n 2, 1) := by decide +kernel
theorem dX12_aim_23 : decode cX12_aim 23 = .ok (.iload_n 1, 1) := by decide +kernel
theorem dX12_aim_24 : decode cX12_aim 24 = .ok (.invokevirtual 398, 3) := by decide +kernel
theorem dX12_aim_27 : decode cX12_aim 27 = .ok (.ifCond .ge 7, 3) := by decide +kernel
theorem dX12_aim_30 : decode cX12_aim 30 = .ok (.iconst 5, 1) := by decide +kernel
theorem dX12_aim_31 : decode cX12_aim 31 = .ok (.goto 7, 3) := by decide +kernel
theorem dX12_aim_34 : decode cX12_aim 34 = .ok (.aload_n 0, 1) := by decide +kernel
theorem dX12_aim_35 : decode cX12_aim 35 = .ok (.getfield 340, 3) := by decide +kernel
theorem dX12_aim_38 : decode cX12_aim 38 = .ok (.putfield 340, 3) := by decide +kernel
theorem dX12_aim_41 : decode cX12_aim 41 = .ok (.return_, 1) := by decide +kernel
theorem dX12_loads_0 : decode cX12_loads 0 = .ok (.iload_n 1, 1) := by decide +kernel
theorem dX12_loads_1 : decode cX12_loads 1 = .ok (.iconst 1, 1) := by decide +kernel
theorem dX12_loads_2 : decode cX12_loads 2 = .ok (.if_icmp .ne 12, 3) := by decide +kernel
theorem dX12_loads_5 : decode cX12_loads 5 = .ok (.aload_n 0, 1) := by decide +kernel
theorem dX12_loads_6 : decode cX12_loads 6 = .ok (.iconst 2, 1) := by decide +kernel
theorem dX12_loads_7 : decode cX12_loads 7 = .ok (.lload_n 2, 1) := by decide +kernel
theorem dX12_loads_8 : decode cX12_loads 8 = .ok (.invokevirtual 443, 3) := by decide +kernel
theorem dX12_loads_11 : decode cX12_loads 11 = .ok (.goto 212, 3) := by decide +kernel
theorem dX12_loads_14 : decode cX12_loads 14 = .ok (.iload_n 1, 1) := by decide +kernel
theorem dX12_loads_15 : decode cX12_loads 15 = .ok (.iconst 2, 1) := by decide +kernel
theorem dX12_loads_16 : decode cX12_loads 16 = .ok (.if_icmp .lt 64, 3) := by decide +kernel
theorem dX12_loads_19 : decode cX12_loads 19 = .ok (.iload_n 1, 1) := by decide +kernel
theorem dX12_loads_20 : decode cX12_loads 20 = .ok (.iconst 5, 1) := by decide +kernel
theorem dX12_loads_21 : decode cX12_loads 21 = .ok (.if_icmp .ge 59, 3) := by decide +kernel
theorem dX12_loads_24 : decode cX12_loads 24 = .ok (.iload_n 1, 1) := by decide +kernel
theorem dX12_loads_25 : decode cX12_loads 25 = .ok (.iconst 2, 1) := by decide +kernel
theorem dX12_loads_26 : decode cX12_loads 26 = .ok (.if_icmp .ne 9, 3) := by decide +kernel
theorem dX12_loads_29 : decode cX12_loads 29 = .ok (.ldc2_w 447, 3) := by decide +kernel
theorem dX12_loads_32 : decode cX12_loads 32 = .ok (.goto 17, 3) := by decide +kernel
theorem dX12_loads_35 : decode cX12_loads 35 = .ok (.iload_n 1, 1) := by decide +kernel
theorem dX12_loads_36 : decode cX12_loads 36 = .ok (.iconst 3, 1) := by decide +kernel
theorem dX12_loads_37 : decode cX12_loads 37 = .ok (.if_icmp .ne 9, 3) := by decide +kernel
theorem dX12_loads_40 : decode cX12_loads 40 = .ok (.ldc2_w 449, 3) := by decide +kernel
theorem dX12_loads_43 : decode cX12_loads 43 = .ok (.goto 6, 3) := by decide +kernel
theorem dX12_loads_46 : decode cX12_loads 46 = .ok (.ldc2_w 451, 3) := by decide +kernel
theorem dX12_loads_49 : decode cX12_loads 49 = .ok (.dstore 4, 2) := by decide +kernel
theorem dX12_loads_51 : decode cX12_loads 51 = .ok (.lload_n 2, 1) := by decide +kernel
theorem dX12_loads_52 : decode cX12_loads 52 = .ok (.l2d, 1) := by decide +kernel
theorem dX12_loads_53 : decode cX12_loads 53 = .ok (.dload 4, 2) := by decide +kernel
theorem dX12_loads_55 : decode cX12_loads 55 = .ok (.ddiv, 1) := by decide +kernel
theorem dX12_loads_56 : decode cX12_loads 56 = .ok (.dstore 6, 2) := by decide +kernel
theorem dX12_loads_58 : decode cX12_loads 58 = .ok (.aload_n 0, 1) := by decide +kernel
theorem dX12_loads_59 : decode cX12_loads 59 = .ok (.iconst 3, 1) := by decide +kernel
theorem dX12_loads_60 : decode cX12_loads 60 = .ok (.lconst 0, 1) := by decide +kernel
theorem dX12_loads_61 : decode cX12_loads 61 = .ok (.invokevirtual 443, 3) := by decide +kernel
theorem dX12_loads_64 : decode cX12_loads 64 = .ok (.aload_n 0, 1) := by decide +kernel
theorem dX12_loads_65 : decode cX12_loads 65 = .ok (.getfield 120, 3) := by decide +kernel
theorem dX12_loads_68 : decode cX12_loads 68 = .ok (.aload_n 0, 1) := by decide +kernel
theorem dX12_loads_69 : decode cX12_loads 69 = .ok (.getfield 311, 3) := by decide +kernel
theorem dX12_loads_72 : decode cX12_loads 72 = .ok (.iconst 1, 1) := by decide +kernel
theorem dX12_loads_73 : decode cX12_loads 73 = .ok (.isub, 1) := by decide +kernel
theorem dX12_loads_74 : decode cX12_loads 74 = .ok (.dload 6, 2) := by decide +kernel
theorem dX12_loads_76 : decode cX12_loads 76 = .ok (.dastore, 1) := by decide +kernel
theorem dX12_loads_77 : decode cX12_loads 77 = .ok (.goto 146, 3) := by decide +kernel
theorem dX12_loads_80 : decode cX12_loads 80 = .ok (.iload_n 1, 1) := by decide +kernel
theorem dX12_loads_81 : decode cX12_loads 81 = .ok (.iconst 5, 1) := by decide +kernel
theorem dX12_loads_82 : decode cX12_loads 82 = .ok (.if_icmp .ne 12, 3) := by decide +kernel
theorem dX12_loads_85 : decode cX12_loads 85 = .ok (.aload_n 0, 1) := by decide +kernel
theorem dX12_loads_86 : decode cX12_loads 86 = .ok (.iconst 4, 1) := by decide +kernel
theorem dX12_loads_87 : decode cX12_loads 87 = .ok (.lload_n 2, 1) := by decide +kernel
theorem dX12_loads_88 : decode cX12_loads 88 = .ok (.invokevirtual 443, 3) := by decide +kernel
theorem dX12_loads_91 : decode cX12_loads 91 = .ok (.goto 132, 3) := by decide +kernel
theorem dX12_loads_94 : decode cX12_loads 94 = .ok (.iload_n 1, 1) := by decide +kernel
theorem dX12_loads_95 : decode cX12_loads 95 = .ok (.bipush 6, 2) := by decide +kernel
theorem dX12_loads_97 : decode cX12_loads 97 = .ok (.if_icmp .eq 9, 3) := by decide +kernel
theorem dX12_loads_100 : decode cX12_loads 100 = .ok (.iload_n 1, 1) := by decide +kernel
theorem dX12_loads_101 : decode cX12_loads 101 = .ok (.bipush 7, 2) := by decide +kernel
theorem dX12_loads_103 : decode cX12_loads 103 = .ok (.if_icmp .ne 22, 3) := by decide +kernel
theorem dX12_loads_106 : decode cX12_loads 106 = .ok (.aload_n 0, 1) := by decide +kernel
theorem dX12_loads_107 : decode cX12_loads 107 = .ok (.iconst 1, 1) := by decide +kernel
theorem dX12_loads_108 : decode cX12_loads 108 = .ok (.iload_n 1, 1) := by decide +kernel
theorem dX12_loads_109 : decode cX12_loads 109 = .ok (.bipush 6, 2) := by decide +kernel
theorem dX12_loads_111 : decode cX12_loads 111 = .ok (.if_icmp .ne 7, 3) := by decide +kernel
theorem dX12_loads_114 : decode cX12_loads 114 = .ok (.lconst 1, 1) := by decide +kernel
theorem dX12_loads_115 : decode cX12_loads 115 = .ok (.goto 4, 3) := by decide +kernel
theorem dX12_loads_118 : decode cX12_loads 118 = .ok (.lconst 0, 1) := by decide +kernel
theorem dX12_loads_119 : decode cX12_loads 119 = .ok (.invokevirtual 443, 3) := by decide +kernel
theorem dX12_loads_122 : decode cX12_loads 122 = .ok (.goto 101, 3) := by decide +kernel
theorem dX12_loads_125 : decode cX12_loads 125 = .ok (.iload_n 1, 1) := by decide +kernel
theorem dX12_loads_126 : decode cX12_loads 126 = .ok (.bipush 8, 2) := by decide +kernel
theorem dX12_loads_128 : decode cX12_loads 128 = .ok (.if_icmp .ne 12, 3) := by decide +kernel
theorem dX12_loads_131 : decode cX12_loads 131 = .ok (.aload_n 0, 1) := by decide +kernel
theorem dX12_loads_132 : decode cX12_loads 132 = .ok (.iconst 0, 1) := by decide +kernel
theorem dX12_loads_133 : decode cX12_loads 133 = .ok (.lconst 0, 1) := by decide +kernel
theorem dX12_loads_134 : decode cX12_loads 134 = .ok (.invokevirtual 443, 3) := by decide +kernel
theorem dX12_loads_137 : decode cX12_loads 137 = .ok (.goto 86, 3) := by decide +kernel
theorem dX12_loads_140 : decode cX12_loads 140 = .ok (.iload_n 1, 1) := by decide +kernel
theorem dX12_loads_141 : decode cX12_loads 141 = .ok (.bipush 10, 2) := by decide +kernel
theorem dX12_loads_143 : decode cX12_loads 143 = .ok (.if_icmp .ne 49, 3) := by decide +kernel
theorem dX12_loads_146 : decode cX12_loads 146 = .ok (.aload_n 0, 1) := by decide +kernel
theorem dX12_loads_147 : decode cX12_loads 147 = .ok (.aload_n 0, 1) := by decide +kernel
theorem dX12_loads_148 : decode cX12_loads 148 = .ok (.getfield 453, 3) := by decide +kernel
theorem dX12_loads_151 : decode cX12_loads 151 = .ok (.ifCond .ge 7, 3) := by decide +kernel
theorem dX12_loads_154 : decode cX12_loads 154 = .ok (.iconst 0, 1) := by decide +kernel
theorem dX12_loads_155 : decode cX12_loads 155 = .ok (.goto 15, 3) := by decide +kernel
theorem dX12_loads_158 : decode cX12_loads 158 = .ok (.bipush 8, 2) := by decide +kernel
theorem dX12_loads_160 : decode cX12_loads 160 = .ok (.aload_n 0, 1) := by decide +kernel
theorem dX12_loads_161 : decode cX12_loads 161 = .ok (.getfield 105, 3) := by decide +kernel
theorem dX12_loads_164 : decode cX12_loads 164 = .ok (.aload_n 0, 1) := by decide +kernel
theorem dX12_loads_165 : decode cX12_loads 165 = .ok (.getfield 453, 3) := by decide +kernel
theorem dX12_loads_168 : decode cX12_loads 168 = .ok (.iaload, 1) := by decide +kernel
theorem dX12_loads_169 : decode cX12_loads 169 = .ok (.iadd, 1) := by decide +kernel
theorem dX12_loads_170 : decode cX12_loads 170 = .ok (.aload_n 0, 1) := by decide +kernel
theorem dX12_loads_171 : decode cX12_loads 171 = .ok (.getfield 453, 3) := by decide +kernel
theorem dX12_loads_174 : decode cX12_loads 174 = .ok (.ifCond .ge 7, 3) := by decide +kernel
theorem dX12_loads_177 : decode cX12_loads 177 = .ok (.lconst 0, 1) := by decide +kernel
theorem dX12_loads_178 : decode cX12_loads 178 = .ok (.goto 8, 3) := by decide +kernel
theorem dX12_loads_181 : decode cX12_loads 181 = .ok (.aload_n 0, 1) := by decide +kernel
theorem dX12_loads_182 : decode cX12_loads 182 = .ok (.getfield 453, 3) := by decide +kernel
theorem dX12_loads_185 : decode cX12_loads 185 = .ok (.i2l, 1) := by decide +kernel
theorem dX12_loads_186 : decode cX12_loads 186 = .ok (.invokevirtual 443, 3) := by decide +kernel
theorem dX12_loads_189 : decode cX12_loads 189 = .ok (.goto 34, 3) := by decide +kernel
theorem dX12_loads_192 : decode cX12_loads 192 = .ok (.aload_n 0, 1) := by decide +kernel
theorem dX12_loads_193 : decode cX12_loads 193 = .ok (.lload_n 2, 1) := by decide +kernel
theorem dX12_loads_194 : decode cX12_loads 194 = .ok (.l2i, 1) := by decide +kernel
theorem dX12_loads_195 : decode cX12_loads 195 = .ok (.invokevirtual 434, 3) := by decide +kernel
theorem dX12_loads_198 : decode cX12_loads 198 = .ok (.istore 4, 2) := by decide +kernel
theorem dX12_loads_200 : decode cX12_loads 200 = .ok (.aload_n 0, 1) := by decide +kernel
theorem dX12_loads_201 : decode cX12_loads 201 = .ok (.iconst 0, 1) := by decide +kernel
theorem dX12_loads_202 : decode cX12_loads 202 = .ok (.lconst 0, 1) := by decide +kernel
theorem dX12_loads_203 : decode cX12_loads 203 = .ok (.invokevirtual 443, 3) := by decide +kernel
theorem dX12_loads_206 : decode cX12_loads 206 = .ok (.iload 4, 2) := by decide +kernel
theorem dX12_loads_208 : decode cX12_loads 208 = .ok (.ifCond .lt 15, 3) := by decide +kernel
theorem dX12_loads_211 : decode cX12_loads 211 = .ok (.aload_n 0, 1) := by decide +kernel
theorem dX12_loads_212 : decode cX12_loads 212 = .ok (.iload 4, 2) := by decide +kernel
theorem dX12_loads_214 : decode cX12_loads 214 = .ok (.aload_n 0, 1) := by decide +kernel
theorem dX12_loads_215 : decode cX12_loads 215 = .ok (.getfield 311, 3) := by decide +kernel
theorem dX12_loads_218 : decode cX12_loads 218 = .ok (.iconst 1, 1) := by decide +kernel
theorem dX12_loads_219 : decode cX12_loads 219 = .ok (.isub, 1) := by decide +kernel
theorem dX12_loads_220 : decode cX12_loads 220 = .ok (.invokevirtual 401, 3) := by decide +kernel
theorem dX12_loads_223 : decode cX12_loads 223 = .ok (.return_, 1) := by decide +kernel
theorem dX12_empty_0 : decode cX12_empty 0 = .ok (.aload_n 0, 1) := by decide +kernel
theorem dX12_empty_1 : decode cX12_empty 1 = .ok (.getfield 111, 3) := by decide +kernel
theorem dX12_empty_4 : decode cX12_empty 4 = .ok (.iload_n 1, 1) := by decide +kernel
theorem dX12_empty_5 : decode cX12_empty 5 = .ok (.iaload, 1) := by decide +kernel
theorem dX12_empty_6 : decode cX12_empty 6 = .ok (.ifCond .eq 21, 3) := by decide +kernel
theorem dX12_empty_9 : decode cX12_empty 9 = .ok (.aload_n 0, 1) := by decide +kernel
theorem dX12_empty_10 : decode cX12_empty 10 = .ok (.getfield 111, 3) := by decide +kernel
theorem dX12_empty_13 : decode cX12_empty 13 = .ok (.iload_n 1, 1) := by decide +kernel
theorem dX12_empty_14 : decode cX12_empty 14 = .ok (.iaload, 1) := by decide +kernel
theorem dX12_empty_15 : decode cX12_empty 15 = .ok (.iconst 4, 1) := by decide +kernel
theorem dX12_empty_16 : decode cX12_empty 16 = .ok (.if_icmp .ne 15, 3) := by decide +kernel
theorem dX12_empty_19 : decode cX12_empty 19 = .ok (.aload_n 0, 1) := by decide +kernel
theorem dX12_empty_20 : decode cX12_empty 20 = .ok (.iload_n 1, 1) := by decide +kernel
theorem dX12_empty_21 : decode cX12_empty 21 = .ok (.invokevirtual 326, 3) := by decide +kernel
theorem dX12_empty_24 : decode cX12_empty 24 = .ok (.ifCond .ne 7, 3) := by decide +kernel
theorem dX12_empty_27 : decode cX12_empty 27 = .ok (.iconst 1, 1) := by decide +kernel
theorem dX12_empty_28 : decode cX12_empty 28 = .ok (.goto 4, 3) := by decide +kernel
theorem dX12_empty_31 : decode cX12_empty 31 = .ok (.iconst 0, 1) := by decide +kernel
theorem dX12_empty_32 : decode cX12_empty 32 = .ok (.ireturn, 1) := by decide +kernel
theorem dX12_jumps_0 : decode cX12_jumps 0 = .ok (.aload_n 0, 1) := by decide +kernel
theorem dX12_jumps_1 : decode cX12_jumps 1 = .ok (.getfield 311, 3) := by decide +kernel
theorem dX12_jumps_4 : decode cX12_jumps 4 = .ok (.iconst 1, 1) := by decide +kernel
theorem dX12_jumps_5 : decode cX12_jumps 5 = .ok (.isub, 1) := by decide +kernel
theorem dX12_jumps_6 : decode cX12_jumps 6 = .ok (.istore_n 2, 1) := by decide +kernel
theorem dX12_jumps_7 : decode cX12_jumps 7 = .ok (.iload_n 1, 1) := by decide +kernel
theorem dX12_jumps_8 : decode cX12_jumps 8 = .ok (.bipush 36, 2) := by decide +kernel
theorem dX12_jumps_10 : decode cX12_jumps 10 = .ok (.if_icmp .eq 32, 3) := by decide +kernel
theorem dX12_jumps_13 : decode cX12_jumps 13 = .ok (.iload_n 1, 1) := by decide +kernel
theorem dX12_jumps_14 : decode cX12_jumps 14 = .ok (.bipush 14, 2) := by decide +kernel
theorem dX12_jumps_16 : decode cX12_jumps 16 = .ok (.if_icmp .ne 12, 3) := by decide +kernel
theorem dX12_jumps_19 : decode cX12_jumps 19 = .ok (.aload_n 0, 1) := by decide +kernel
theorem dX12_jumps_20 : decode cX12_jumps 20 = .ok (.getfield 111, 3) := by decide +kernel
theorem dX12_jumps_23 : decode cX12_jumps 23 = .ok (.iload_n 2, 1) := by decide +kernel
theorem dX12_jumps_24 : decode cX12_jumps 24 = .ok (.iaload, 1) := by decide +kernel
theorem dX12_jumps_25 : decode cX12_jumps 25 = .ok (.ifCond .eq 17, 3) := by decide +kernel
theorem dX12_jumps_28 : decode cX12_jumps 28 = .ok (.iload_n 1, 1) := by decide +kernel
theorem dX12_jumps_29 : decode cX12_jumps 29 = .ok (.bipush 37, 2) := by decide +kernel
theorem dX12_jumps_31 : decode cX12_jumps 31 = .ok (.if_icmp .ne 15, 3) := by decide +kernel
theorem dX12_jumps_34 : decode cX12_jumps 34 = .ok (.aload_n 0, 1) := by decide +kernel
theorem dX12_jumps_35 : decode cX12_jumps 35 = .ok (.iload_n 2, 1) := by decide +kernel
theorem dX12_jumps_36 : decode cX12_jumps 36 = .ok (.invokevirtual 456, 3) := by decide +kernel
theorem dX12_jumps_39 : decode cX12_jumps 39 = .ok (.ifCond .ne 7, 3) := by decide +kernel
theorem dX12_jumps_42 : decode cX12_jumps 42 = .ok (.iconst 1, 1) := by decide +kernel
theorem dX12_jumps_43 : decode cX12_jumps 43 = .ok (.goto 4, 3) := by decide +kernel
theorem dX12_jumps_46 : decode cX12_jumps 46 = .ok (.iconst 0, 1) := by decide +kernel
theorem dX12_jumps_47 : decode cX12_jumps 47 = .ok (.istore_n 3, 1) := by decide +kernel
theorem dX12_jumps_48 : decode cX12_jumps 48 = .ok (.iload_n 1, 1) := by decide +kernel
theorem dX12_jumps_49 : decode cX12_jumps 49 = .ok (.bipush 32, 2) := by decide +kernel
theorem dX12_jumps_51 : decode cX12_jumps 51 = .ok (.if_icmp .eq 15, 3) := by decide +kernel
theorem dX12_jumps_54 : decode cX12_jumps 54 = .ok (.iload_n 1, 1) := by decide +kernel
theorem dX12_jumps_55 : decode cX12_jumps 55 = .ok (.bipush 33, 2) := by decide +kernel
theorem dX12_jumps_57 : decode cX12_jumps 57 = .ok (.if_icmp .eq 9, 3) := by decide +kernel
theorem dX12_jumps_60 : decode cX12_jumps 60 = .ok (.iload_n 1, 1) := by decide +kernel
theorem dX12_jumps_61 : decode cX12_jumps 61 = .ok (.bipush 35, 2) := by decide +kernel
theorem dX12_jumps_63 : decode cX12_jumps 63 = .ok (.if_icmp .ne 79, 3) := by decide +kernel
theorem dX12_jumps_66 : decode cX12_jumps 66 = .ok (.aload_n 0, 1) := by decide +kernel
theorem dX12_jumps_67 : decode cX12_jumps 67 = .ok (.aload_n 0, 1) := by decide +kernel
theorem dX12_jumps_68 : decode cX12_jumps 68 = .ok (.getfield 111, 3) := by decide +kernel
theorem dX12_jumps_71 : decode cX12_jumps 71 = .ok (.iload_n 2, 1) := by decide +kernel
theorem dX12_jumps_72 : decode cX12_jumps 72 = .ok (.iaload, 1) := by decide +kernel
theorem dX12_jumps_73 : decode cX12_jumps 73 = .ok (.iconst 1, 1) := by decide +kernel
theorem dX12_jumps_74 : decode cX12_jumps 74 = .ok (.if_icmp .ne 10, 3) := by decide +kernel
theorem dX12_jumps_77 : decode cX12_jumps 77 = .ok (.aload_n 0, 1) := by decide +kernel
theorem dX12_jumps_78 : decode cX12_jumps 78 = .ok (.getfield 340, 3) := by decide +kernel
theorem dX12_jumps_81 : decode cX12_jumps 81 = .ok (.goto 4, 3) := by decide +kernel
theorem dX12_jumps_84 : decode cX12_jumps 84 = .ok (.iconst 1, 1) := by decide +kernel
theorem dX12_jumps_85 : decode cX12_jumps 85 = .ok (.putfield 340, 3) := by decide +kernel
theorem dX12_jumps_88 : decode cX12_jumps 88 = .ok (.aload_n 0, 1) := by decide +kernel
theorem dX12_jumps_89 : decode cX12_jumps 89 = .ok (.getfield 114, 3) := by decide +kernel
theorem dX12_jumps_92 : decode cX12_jumps 92 = .ok (.iload_n 2, 1) := by decide +kernel
theorem dX12_jumps_93 : decode cX12_jumps 93 = .ok (.laload, 1) := by decide +kernel
theorem dX12_jumps_94 : decode cX12_jumps 94 = .ok (.iload_n 1, 1) := by decide +kernel
theorem dX12_jumps_95 : decode cX12_jumps 95 = .ok (.bipush 33, 2) := by decide +kernel
theorem dX12_jumps_97 : decode cX12_jumps 97 = .ok (.if_icmp .ne 7, 3) := by decide +kernel
theorem dX12_jumps_100 : decode cX12_jumps 100 = .ok (.lconst 1, 1) := by decide +kernel
theorem dX12_jumps_101 : decode cX12_jumps 101 = .ok (.goto 4, 3) := by decide +kernel
theorem dX12_jumps_104 : decode cX12_jumps 104 = .ok (.lconst 0, 1) := by decide +kernel
theorem dX12_jumps_105 : decode cX12_jumps 105 = .ok (.lcmp, 1) := by decide +kernel
theorem dX12_jumps_106 : decode cX12_jumps 106 = .ok (.ifCond .ne 7, 3) := by decide +kernel
theorem dX12_jumps_109 : decode cX12_jumps 109 = .ok (.iconst 1, 1) := by decide +kernel
theorem dX12_jumps_110 : decode cX12_jumps 110 = .ok (.goto 4, 3) := by decide +kernel
theorem dX12_jumps_113 : decode cX12_jumps 113 = .ok (.iconst 0, 1) := by decide +kernel
theorem dX12_jumps_114 : decode cX12_jumps 114 = .ok (.istore_n 3, 1) := by decide +kernel
theorem dX12_jumps_115 : decode cX12_jumps 115 = .ok (.aload_n 0, 1) := by decide +kernel
theorem dX12_jumps_116 : decode cX12_jumps 116 = .ok (.dup, 1) := by decide +kernel
theorem dX12_jumps_117 : decode cX12_jumps 117 = .ok (.getfield 311, 3) := by decide +kernel
theorem dX12_jumps_120 : decode cX12_jumps 120 = .ok (.iload_n 3, 1) := by decide +kernel
theorem dX12_jumps_121 : decode cX12_jumps 121 = .ok (.ifCond .eq 13, 3) := by decide +kernel
theorem dX12_jumps_124 : decode cX12_jumps 124 = .ok (.iload_n 1, 1) := by decide +kernel
theorem dX12_jumps_125 : decode cX12_jumps 125 = .ok (.bipush 35, 2) := by decide +kernel
theorem dX12_jumps_127 : decode cX12_jumps 127 = .ok (.if_icmp .eq 7, 3) := by decide +kernel
theorem dX12_jumps_130 : decode cX12_jumps 130 = .ok (.iconst 0, 1) := by decide +kernel
theorem dX12_jumps_131 : decode cX12_jumps 131 = .ok (.goto 4, 3) := by decide +kernel
theorem dX12_jumps_134 : decode cX12_jumps 134 = .ok (.iconst 1, 1) := by decide +kernel
theorem dX12_jumps_135 : decode cX12_jumps 135 = .ok (.isub, 1) := by decide +kernel
theorem dX12_jumps_136 : decode cX12_jumps 136 = .ok (.putfield 311, 3) := by decide +kernel
theorem dX12_jumps_139 : decode cX12_jumps 139 = .ok (.goto 23, 3) := by decide +kernel
theorem dX12_jumps_142 : decode cX12_jumps 142 = .ok (.iload_n 1, 1) := by decide +kernel
theorem dX12_jumps_143 : decode cX12_jumps 143 = .ok (.bipush 37, 2) := by decide +kernel
theorem dX12_jumps_145 : decode cX12_jumps 145 = .ok (.if_icmp .ne 17, 3) := by decide +kernel
theorem dX12_jumps_148 : decode cX12_jumps 148 = .ok (.iload_n 3, 1) := by decide +kernel
theorem dX12_jumps_149 : decode cX12_jumps 149 = .ok (.ifCond .ne 13, 3) := by decide +kernel
theorem dX12_jumps_152 : decode cX12_jumps 152 = .ok (.aload_n 0, 1) := by decide +kernel
theorem dX12_jumps_153 : decode cX12_jumps 153 = .ok (.dup, 1) := by decide +kernel
theorem dX12_jumps_154 : decode cX12_jumps 154 = .ok (.getfield 311, 3) := by decide +kernel
theorem dX12_jumps_157 : decode cX12_jumps 157 = .ok (.iconst 1, 1) := by decide +kernel
theorem dX12_jumps_158 : decode cX12_jumps 158 = .ok (.isub, 1) := by decide +kernel
theorem dX12_jumps_159 : decode cX12_jumps 159 = .ok (.putfield 311, 3) := by decide +kernel
theorem dX12_jumps_162 : decode cX12_jumps 162 = .ok (.iload_n 3, 1) := by decide +kernel
theorem dX12_jumps_163 : decode cX12_jumps 163 = .ok (.ireturn, 1) := by decide +kernel
theorem dX12_does_0 : decode cX12_does 0 = .ok (.iload_n 1, 1) := by decide +kernel
theorem dX12_does_1 : decode cX12_does 1 = .ok (.bipush 10, 2) := by decide +kernel
theorem dX12_does_3 : decode cX12_does 3 = .ok (.if_icmp .lt 9, 3) := by decide +kernel
theorem dX12_does_6 : decode cX12_does 6 = .ok (.iload_n 1, 1) := by decide +kernel
theorem dX12_does_7 : decode cX12_does 7 = .ok (.bipush 10, 2) := by decide +kernel
theorem dX12_does_9 : decode cX12_does 9 = .ok (.if_icmp .ne 12, 3) := by decide +kernel
theorem dX12_does_12 : decode cX12_does 12 = .ok (.aload_n 0, 1) := by decide +kernel
theorem dX12_does_13 : decode cX12_does 13 = .ok (.iload_n 1, 1) := by decide +kernel
theorem dX12_does_14 : decode cX12_does 14 = .ok (.lload_n 2, 1) := by decide +kernel
theorem dX12_does_15 : decode cX12_does 15 = .ok (.invokevirtual 459, 3) := by decide +kernel
theorem dX12_does_18 : decode cX12_does 18 = .ok (.goto 253, 3) := by decide +kernel
theorem dX12_does_21 : decode cX12_does 21 = .ok (.iload_n 1, 1) := by decide +kernel
theorem dX12_does_22 : decode cX12_does 22 = .ok (.bipush 11, 2) := by decide +kernel
theorem dX12_does_24 : decode cX12_does 24 = .ok (.if_icmp .eq 9, 3) := by decide +kernel
theorem dX12_does_27 : decode cX12_does 27 = .ok (.iload_n 1, 1) := by decide +kernel
theorem dX12_does_28 : decode cX12_does 28 = .ok (.bipush 12, 2) := by decide +kernel
theorem dX12_does_30 : decode cX12_does 30 = .ok (.if_icmp .ne 23, 3) := by decide +kernel
theorem dX12_does_33 : decode cX12_does 33 = .ok (.aload_n 0, 1) := by decide +kernel
theorem dX12_does_34 : decode cX12_does 34 = .ok (.lload_n 2, 1) := by decide +kernel
theorem dX12_does_35 : decode cX12_does 35 = .ok (.l2i, 1) := by decide +kernel
theorem dX12_does_36 : decode cX12_does 36 = .ok (.iload_n 1, 1) := by decide +kernel
theorem dX12_does_37 : decode cX12_does 37 = .ok (.bipush 12, 2) := by decide +kernel
theorem dX12_does_39 : decode cX12_does 39 = .ok (.if_icmp .ne 7, 3) := by decide +kernel
theorem dX12_does_42 : decode cX12_does 42 = .ok (.iconst 1, 1) := by decide +kernel
theorem dX12_does_43 : decode cX12_does 43 = .ok (.goto 4, 3) := by decide +kernel
theorem dX12_does_46 : decode cX12_does 46 = .ok (.iconst 0, 1) := by decide +kernel
theorem dX12_does_47 : decode cX12_does 47 = .ok (.invokevirtual 462, 3) := by decide +kernel
theorem dX12_does_50 : decode cX12_does 50 = .ok (.goto 221, 3) := by decide +kernel
theorem dX12_does_53 : decode cX12_does 53 = .ok (.iload_n 1, 1) := by decide +kernel
theorem dX12_does_54 : decode cX12_does 54 = .ok (.bipush 13, 2) := by decide +kernel
theorem dX12_does_56 : decode cX12_does 56 = .ok (.if_icmp .ne 32, 3) := by decide +kernel
theorem dX12_does_59 : decode cX12_does 59 = .ok (.aload_n 0, 1) := by decide +kernel
theorem dX12_does_60 : decode cX12_does 60 = .ok (.aload_n 0, 1) := by decide +kernel
theorem dX12_does_61 : decode cX12_does 61 = .ok (.getfield 111, 3) := by decide +kernel
theorem dX12_does_64 : decode cX12_does 64 = .ok (.aload_n 0, 1) := by decide +kernel
theorem dX12_does_65 : decode cX12_does 65 = .ok (.getfield 311, 3) := by decide +kernel
theorem dX12_does_68 : decode cX12_does 68 = .ok (.iconst 1, 1) := by decide +kernel
theorem dX12_does_69 : decode cX12_does 69 = .ok (.isub, 1) := by decide +kernel
theorem dX12_does_70 : decode cX12_does 70 = .ok (.iaload, 1) := by decide +kernel
theorem dX12_does_71 : decode cX12_does 71 = .ok (.ifCond .ne 7, 3) := by decide +kernel
theorem dX12_does_74 : decode cX12_does 74 = .ok (.iconst 4, 1) := by decide +kernel
theorem dX12_does_75 : decode cX12_does 75 = .ok (.goto 7, 3) := by decide +kernel
theorem dX12_does_78 : decode cX12_does 78 = .ok (.aload_n 0, 1) := by decide +kernel
theorem dX12_does_79 : decode cX12_does 79 = .ok (.getfield 340, 3) := by decide +kernel
theorem dX12_does_82 : decode cX12_does 82 = .ok (.putfield 340, 3) := by decide +kernel
theorem dX12_does_85 : decode cX12_does 85 = .ok (.goto 186, 3) := by decide +kernel
theorem dX12_does_88 : decode cX12_does 88 = .ok (.iload_n 1, 1) := by decide +kernel
theorem dX12_does_89 : decode cX12_does 89 = .ok (.bipush 15, 2) := by decide +kernel
theorem dX12_does_91 : decode cX12_does 91 = .ok (.if_icmp .ne 22, 3) := by decide +kernel
theorem dX12_does_94 : decode cX12_does 94 = .ok (.aload_n 0, 1) := by decide +kernel
theorem dX12_does_95 : decode cX12_does 95 = .ok (.lload_n 2, 1) := by decide +kernel
theorem dX12_does_96 : decode cX12_does 96 = .ok (.ldc2_w 219, 3) := by decide +kernel
theorem dX12_does_99 : decode cX12_does 99 = .ok (.ldiv, 1) := by decide +kernel
theorem dX12_does_100 : decode cX12_does 100 = .ok (.l2i, 1) := by decide +kernel
theorem dX12_does_101 : decode cX12_does 101 = .ok (.lload_n 2, 1) := by decide +kernel
theorem dX12_does_102 : decode cX12_does 102 = .ok (.ldc2_w 219, 3) := by decide +kernel
theorem dX12_does_105 : decode cX12_does 105 = .ok (.lrem, 1) := by decide +kernel
theorem dX12_does_106 : decode cX12_does 106 = .ok (.l2i, 1) := by decide +kernel
theorem dX12_does_107 : decode cX12_does 107 = .ok (.invokevirtual 465, 3) := by decide +kernel
theorem dX12_does_110 : decode cX12_does 110 = .ok (.goto 161, 3) := by decide +kernel
theorem dX12_does_113 : decode cX12_does 113 = .ok (.iload_n 1, 1) := by decide +kernel
theorem dX12_does_114 : decode cX12_does 114 = .ok (.bipush 16, 2) := by decide +kernel
theorem dX12_does_116 : decode cX12_does 116 = .ok (.if_icmp .lt 37, 3) := by decide +kernel
theorem dX12_does_119 : decode cX12_does 119 = .ok (.iload_n 1, 1) := by decide +kernel
theorem dX12_does_120 : decode cX12_does 120 = .ok (.bipush 20, 2) := by decide +kernel
theorem dX12_does_122 : decode cX12_does 122 = .ok (.if_icmp .gt 31, 3) := by decide +kernel
theorem dX12_does_125 : decode cX12_does 125 = .ok (.aload_n 0, 1) := by decide +kernel
theorem dX12_does_126 : decode cX12_does 126 = .ok (.dup, 1) := by decide +kernel
theorem dX12_does_127 : decode cX12_does 127 = .ok (.getfield 311, 3) := by decide +kernel
theorem dX12_does_130 : decode cX12_does 130 = .ok (.iconst 1, 1) := by decide +kernel
theorem dX12_does_131 : decode cX12_does 131 = .ok (.isub, 1) := by decide +kernel
theorem dX12_does_132 : decode cX12_does 132 = .ok (.putfield 311, 3) := by decide +kernel
theorem dX12_does_135 : decode cX12_does 135 = .ok (.aload_n 0, 1) := by decide +kernel
theorem dX12_does_136 : decode cX12_does 136 = .ok (.aload_n 0, 1) := by decide +kernel
theorem dX12_does_137 : decode cX12_does 137 = .ok (.getfield 311, 3) := by decide +kernel
theorem dX12_does_140 : decode cX12_does 140 = .ok (.iconst 1, 1) := by decide +kernel
theorem dX12_does_141 : decode cX12_does 141 = .ok (.isub, 1) := by decide +kernel
theorem dX12_does_142 : decode cX12_does 142 = .ok (.aload_n 0, 1) := by decide +kernel
theorem dX12_does_143 : decode cX12_does 143 = .ok (.getfield 311, 3) := by decide +kernel
theorem dX12_does_146 : decode cX12_does 146 = .ok (.iload_n 1, 1) := by decide +kernel
theorem dX12_does_147 : decode cX12_does 147 = .ok (.invokevirtual 418, 3) := by decide +kernel
theorem dX12_does_150 : decode cX12_does 150 = .ok (.goto 121, 3) := by decide +kernel
theorem dX12_does_153 : decode cX12_does 153 = .ok (.iload_n 1, 1) := by decide +kernel
theorem dX12_does_154 : decode cX12_does 154 = .ok (.bipush 21, 2) := by decide +kernel
theorem dX12_does_156 : decode cX12_does 156 = .ok (.if_icmp .lt 37, 3) := by decide +kernel
theorem dX12_does_159 : decode cX12_does 159 = .ok (.iload_n 1, 1) := by decide +kernel
theorem dX12_does_160 : decode cX12_does 160 = .ok (.bipush 26, 2) := by decide +kernel
theorem dX12_does_162 : decode cX12_does 162 = .ok (.if_icmp .gt 31, 3) := by decide +kernel
theorem dX12_does_165 : decode cX12_does 165 = .ok (.aload_n 0, 1) := by decide +kernel
theorem dX12_does_166 : decode cX12_does 166 = .ok (.dup, 1) := by decide +kernel
theorem dX12_does_167 : decode cX12_does 167 = .ok (.getfield 311, 3) := by decide +kernel
theorem dX12_does_170 : decode cX12_does 170 = .ok (.iconst 1, 1) := by decide +kernel
theorem dX12_does_171 : decode cX12_does 171 = .ok (.isub, 1) := by decide +kernel
theorem dX12_does_172 : decode cX12_does 172 = .ok (.putfield 311, 3) := by decide +kernel
theorem dX12_does_175 : decode cX12_does 175 = .ok (.aload_n 0, 1) := by decide +kernel
theorem dX12_does_176 : decode cX12_does 176 = .ok (.aload_n 0, 1) := by decide +kernel
theorem dX12_does_177 : decode cX12_does 177 = .ok (.getfield 311, 3) := by decide +kernel
theorem dX12_does_180 : decode cX12_does 180 = .ok (.iconst 1, 1) := by decide +kernel
theorem dX12_does_181 : decode cX12_does 181 = .ok (.isub, 1) := by decide +kernel
theorem dX12_does_182 : decode cX12_does 182 = .ok (.aload_n 0, 1) := by decide +kernel
theorem dX12_does_183 : decode cX12_does 183 = .ok (.getfield 311, 3) := by decide +kernel
theorem dX12_does_186 : decode cX12_does 186 = .ok (.iload_n 1, 1) := by decide +kernel
theorem dX12_does_187 : decode cX12_does 187 = .ok (.invokevirtual 468, 3) := by decide +kernel
theorem dX12_does_190 : decode cX12_does 190 = .ok (.goto 81, 3) := by decide +kernel
theorem dX12_does_193 : decode cX12_does 193 = .ok (.iload_n 1, 1) := by decide +kernel
theorem dX12_does_194 : decode cX12_does 194 = .ok (.bipush 30, 2) := by decide +kernel
theorem dX12_does_196 : decode cX12_does 196 = .ok (.if_icmp .eq 9, 3) := by decide +kernel
theorem dX12_does_199 : decode cX12_does 199 = .ok (.iload_n 1, 1) := by decide +kernel
theorem dX12_does_200 : decode cX12_does 200 = .ok (.bipush 31, 2) := by decide +kernel
theorem dX12_does_202 : decode cX12_does 202 = .ok (.if_icmp .ne 11, 3) := by decide +kernel
theorem dX12_does_205 : decode cX12_does 205 = .ok (.aload_n 0, 1) := by decide +kernel
theorem dX12_does_206 : decode cX12_does 206 = .ok (.iload_n 1, 1) := by decide +kernel
theorem dX12_does_207 : decode cX12_does 207 = .ok (.invokevirtual 471, 3) := by decide +kernel
theorem dX12_does_210 : decode cX12_does 210 = .ok (.goto 61, 3) := by decide +kernel
theorem dX12_does_213 : decode cX12_does 213 = .ok (.iload_n 1, 1) := by decide +kernel
theorem dX12_does_214 : decode cX12_does 214 = .ok (.bipush 34, 2) := by decide +kernel
theorem dX12_does_216 : decode cX12_does 216 = .ok (.if_icmp .ne 33, 3) := by decide +kernel
theorem dX12_does_219 : decode cX12_does 219 = .ok (.aload_n 0, 1) := by decide +kernel
theorem dX12_does_220 : decode cX12_does 220 = .ok (.aload_n 0, 1) := by decide +kernel
theorem dX12_does_221 : decode cX12_does 221 = .ok (.getfield 111, 3) := by decide +kernel
theorem dX12_does_224 : decode cX12_does 224 = .ok (.aload_n 0, 1) := by decide +kernel
theorem dX12_does_225 : decode cX12_does 225 = .ok (.getfield 311, 3) := by decide +kernel
theorem dX12_does_228 : decode cX12_does 228 = .ok (.iconst 1, 1) := by decide +kernel
theorem dX12_does_229 : decode cX12_does 229 = .ok (.isub, 1) := by decide +kernel
theorem dX12_does_230 : decode cX12_does 230 = .ok (.iaload, 1) := by decide +kernel
theorem dX12_does_231 : decode cX12_does 231 = .ok (.iconst 1, 1) := by decide +kernel
theorem dX12_does_232 : decode cX12_does 232 = .ok (.if_icmp .ne 10, 3) := by decide +kernel
theorem dX12_does_235 : decode cX12_does 235 = .ok (.aload_n 0, 1) := by decide +kernel
theorem dX12_does_236 : decode cX12_does 236 = .ok (.getfield 340, 3) := by decide +kernel
theorem dX12_does_239 : decode cX12_does 239 = .ok (.goto 4, 3) := by decide +kernel
theorem dX12_does_242 : decode cX12_does 242 = .ok (.iconst 1, 1) := by decide +kernel
theorem dX12_does_243 : decode cX12_does 243 = .ok (.putfield 340, 3) := by decide +kernel
theorem dX12_does_246 : decode cX12_does 246 = .ok (.goto 25, 3) := by decide +kernel
theorem dX12_does_249 : decode cX12_does 249 = .ok (.iload_n 1, 1) := by decide +kernel
theorem dX12_does_250 : decode cX12_does 250 = .ok (.bipush 39, 2) := by decide +kernel
theorem dX12_does_252 : decode cX12_does 252 = .ok (.if_icmp .ne 12, 3) := by decide +kernel
theorem dX12_does_255 : decode cX12_does 255 = .ok (.aload_n 0, 1) := by decide +kernel
theorem dX12_does_256 : decode cX12_does 256 = .ok (.lload_n 2, 1) := by decide +kernel
theorem dX12_does_257 : decode cX12_does 257 = .ok (.l2i, 1) := by decide +kernel
theorem dX12_does_258 : decode cX12_does 258 = .ok (.invokevirtual 474, 3) := by decide +kernel
theorem dX12_does_261 : decode cX12_does 261 = .ok (.goto 10, 3) := by decide +kernel
theorem dX12_does_264 : decode cX12_does 264 = .ok (.aload_n 0, 1) := by decide +kernel
theorem dX12_does_265 : decode cX12_does 265 = .ok (.iload_n 1, 1) := by decide +kernel
theorem dX12_does_266 : decode cX12_does 266 = .ok (.lload_n 2, 1) := by decide +kernel
theorem dX12_does_267 : decode cX12_does 267 = .ok (.l2i, 1) := by decide +kernel
theorem dX12_does_268 : decode cX12_does 268 = .ok (.invokevirtual 477, 3) := by decide +kernel
theorem dX12_does_271 : decode cX12_does 271 = .ok (.return_, 1) := by decide +kernel
theorem dX12_run_0 : decode cX12_run 0 = .ok (.aload_n 0, 1) := by decide +kernel
theorem dX12_run_1 : decode cX12_run 1 = .ok (.iload_n 1, 1) := by decide +kernel
theorem dX12_run_2 : decode cX12_run 2 = .ok (.ifCond .lt 24, 3) := by decide +kernel
theorem dX12_run_5 : decode cX12_run 5 = .ok (.iload_n 1, 1) := by decide +kernel
theorem dX12_run_6 : decode cX12_run 6 = .ok (.aload_n 0, 1) := by decide +kernel
theorem dX12_run_7 : decode cX12_run 7 = .ok (.getfield 283, 3) := by decide +kernel
theorem dX12_run_10 : decode cX12_run 10 = .ok (.if_icmp .ge 16, 3) := by decide +kernel
theorem dX12_run_13 : decode cX12_run 13 = .ok (.iload_n 2, 1) := by decide +kernel
theorem dX12_run_14 : decode cX12_run 14 = .ok (.iconst (-1), 1) := by decide +kernel
theorem dX12_run_15 : decode cX12_run 15 = .ok (.if_icmp .lt 11, 3) := by decide +kernel
theorem dX12_run_18 : decode cX12_run 18 = .ok (.iload_n 2, 1) := by decide +kernel
theorem dX12_run_19 : decode cX12_run 19 = .ok (.aload_n 0, 1) := by decide +kernel
theorem dX12_run_20 : decode cX12_run 20 = .ok (.getfield 308, 3) := by decide +kernel
theorem dX12_run_23 : decode cX12_run 23 = .ok (.if_icmp .lt 7, 3) := by decide +kernel
theorem dX12_run_26 : decode cX12_run 26 = .ok (.iconst 1, 1) := by decide +kernel
theorem dX12_run_27 : decode cX12_run 27 = .ok (.goto 4, 3) := by decide +kernel
theorem dX12_run_30 : decode cX12_run 30 = .ok (.iconst 0, 1) := by decide +kernel
theorem dX12_run_31 : decode cX12_run 31 = .ok (.putfield 127, 3) := by decide +kernel
theorem dX12_run_34 : decode cX12_run 34 = .ok (.aload_n 0, 1) := by decide +kernel
theorem dX12_run_35 : decode cX12_run 35 = .ok (.getfield 127, 3) := by decide +kernel
theorem dX12_run_38 : decode cX12_run 38 = .ok (.ifCond .le 5, 3) := by decide +kernel
theorem dX12_run_41 : decode cX12_run 41 = .ok (.iconst 0, 1) := by decide +kernel
theorem dX12_run_42 : decode cX12_run 42 = .ok (.ireturn, 1) := by decide +kernel
theorem dX12_run_43 : decode cX12_run 43 = .ok (.aload_n 0, 1) := by decide +kernel
theorem dX12_run_44 : decode cX12_run 44 = .ok (.iconst 0, 1) := by decide +kernel
theorem dX12_run_45 : decode cX12_run 45 = .ok (.putfield 311, 3) := by decide +kernel
theorem dX12_run_48 : decode cX12_run 48 = .ok (.aload_n 0, 1) := by decide +kernel
theorem dX12_run_49 : decode cX12_run 49 = .ok (.iconst 0, 1) := by decide +kernel
theorem dX12_run_50 : decode cX12_run 50 = .ok (.putfield 340, 3) := by decide +kernel
theorem dX12_run_53 : decode cX12_run 53 = .ok (.aload_n 0, 1) := by decide +kernel
theorem dX12_run_54 : decode cX12_run 54 = .ok (.iload_n 2, 1) := by decide +kernel
theorem dX12_run_55 : decode cX12_run 55 = .ok (.putfield 453, 3) := by decide +kernel
theorem dX12_run_58 : decode cX12_run 58 = .ok (.bipush 90, 2) := by decide +kernel
theorem dX12_run_60 : decode cX12_run 60 = .ok (.iload_n 1, 1) := by decide +kernel
theorem dX12_run_61 : decode cX12_run 61 = .ok (.imul, 1) := by decide +kernel
theorem dX12_run_62 : decode cX12_run 62 = .ok (.aload_n 0, 1) := by decide +kernel
theorem dX12_run_63 : decode cX12_run 63 = .ok (.getfield 32, 3) := by decide +kernel
theorem dX12_run_66 : decode cX12_run 66 = .ok (.iload_n 1, 1) := by decide +kernel
theorem dX12_run_67 : decode cX12_run 67 = .ok (.iaload, 1) := by decide +kernel
theorem dX12_run_68 : decode cX12_run 68 = .ok (.iadd, 1) := by decide +kernel
theorem dX12_run_69 : decode cX12_run 69 = .ok (.istore_n 3, 1) := by decide +kernel
theorem dX12_run_70 : decode cX12_run 70 = .ok (.bipush 90, 2) := by decide +kernel
theorem dX12_run_72 : decode cX12_run 72 = .ok (.iload_n 1, 1) := by decide +kernel
theorem dX12_run_73 : decode cX12_run 73 = .ok (.imul, 1) := by decide +kernel
theorem dX12_run_74 : decode cX12_run 74 = .ok (.istore 4, 2) := by decide +kernel
theorem dX12_run_76 : decode cX12_run 76 = .ok (.iload 4, 2) := by decide +kernel
theorem dX12_run_78 : decode cX12_run 78 = .ok (.iload_n 3, 1) := by decide +kernel
theorem dX12_run_79 : decode cX12_run 79 = .ok (.if_icmp .ge 121, 3) := by decide +kernel
theorem dX12_run_82 : decode cX12_run 82 = .ok (.aload_n 0, 1) := by decide +kernel
theorem dX12_run_83 : decode cX12_run 83 = .ok (.getfield 340, 3) := by decide +kernel
theorem dX12_run_86 : decode cX12_run 86 = .ok (.ifCond .ne 114, 3) := by decide +kernel
theorem dX12_run_89 : decode cX12_run 89 = .ok (.aload_n 0, 1) := by decide +kernel
theorem dX12_run_90 : decode cX12_run 90 = .ok (.getfield 26, 3) := by decide +kernel
theorem dX12_run_93 : decode cX12_run 93 = .ok (.iload 4, 2) := by decide +kernel
theorem dX12_run_95 : decode cX12_run 95 = .ok (.iaload, 1) := by decide +kernel
theorem dX12_run_96 : decode cX12_run 96 = .ok (.istore 5, 2) := by decide +kernel
theorem dX12_run_98 : decode cX12_run 98 = .ok (.iload 5, 2) := by decide +kernel
theorem dX12_run_100 : decode cX12_run 100 = .ok (.bipush 36, 2) := by decide +kernel
theorem dX12_run_102 : decode cX12_run 102 = .ok (.if_icmp .eq 38, 3) := by decide +kernel
theorem dX12_run_105 : decode cX12_run 105 = .ok (.iload 5, 2) := by decide +kernel
theorem dX12_run_107 : decode cX12_run 107 = .ok (.bipush 14, 2) := by decide +kernel
theorem dX12_run_109 : decode cX12_run 109 = .ok (.if_icmp .eq 31, 3) := by decide +kernel
theorem dX12_run_112 : decode cX12_run 112 = .ok (.iload 5, 2) := by decide +kernel
theorem dX12_run_114 : decode cX12_run 114 = .ok (.bipush 32, 2) := by decide +kernel
theorem dX12_run_116 : decode cX12_run 116 = .ok (.if_icmp .eq 24, 3) := by decide +kernel
theorem dX12_run_119 : decode cX12_run 119 = .ok (.iload 5, 2) := by decide +kernel
theorem dX12_run_121 : decode cX12_run 121 = .ok (.bipush 33, 2) := by decide +kernel
theorem dX12_run_123 : decode cX12_run 123 = .ok (.if_icmp .eq 17, 3) := by decide +kernel
theorem dX12_run_126 : decode cX12_run 126 = .ok (.iload 5, 2) := by decide +kernel
theorem dX12_run_128 : decode cX12_run 128 = .ok (.bipush 35, 2) := by decide +kernel
theorem dX12_run_130 : decode cX12_run 130 = .ok (.if_icmp .eq 10, 3) := by decide +kernel
theorem dX12_run_133 : decode cX12_run 133 = .ok (.iload 5, 2) := by decide +kernel
theorem dX12_run_135 : decode cX12_run 135 = .ok (.bipush 37, 2) := by decide +kernel
theorem dX12_run_137 : decode cX12_run 137 = .ok (.if_icmp .ne 7, 3) := by decide +kernel
theorem dX12_run_140 : decode cX12_run 140 = .ok (.iconst 1, 1) := by decide +kernel
theorem dX12_run_141 : decode cX12_run 141 = .ok (.goto 4, 3) := by decide +kernel
theorem dX12_run_144 : decode cX12_run 144 = .ok (.iconst 0, 1) := by decide +kernel
theorem dX12_run_145 : decode cX12_run 145 = .ok (.istore 6, 2) := by decide +kernel
theorem dX12_run_147 : decode cX12_run 147 = .ok (.iload 6, 2) := by decide +kernel
theorem dX12_run_149 : decode cX12_run 149 = .ok (.ifCond .eq 32, 3) := by decide +kernel
theorem dX12_run_152 : decode cX12_run 152 = .ok (.aload_n 0, 1) := by decide +kernel
theorem dX12_run_153 : decode cX12_run 153 = .ok (.iload 5, 2) := by decide +kernel
theorem dX12_run_155 : decode cX12_run 155 = .ok (.invokevirtual 480, 3) := by decide +kernel
theorem dX12_run_158 : decode cX12_run 158 = .ok (.ifCond .eq 14, 3) := by decide +kernel
theorem dX12_run_161 : decode cX12_run 161 = .ok (.aload_n 0, 1) := by decide +kernel
theorem dX12_run_162 : decode cX12_run 162 = .ok (.getfield 29, 3) := by decide +kernel
theorem dX12_run_165 : decode cX12_run 165 = .ok (.iload 4, 2) := by decide +kernel
theorem dX12_run_167 : decode cX12_run 167 = .ok (.laload, 1) := by decide +kernel
theorem dX12_run_168 : decode cX12_run 168 = .ok (.l2i, 1) := by decide +kernel
theorem dX12_run_169 : decode cX12_run 169 = .ok (.goto 7, 3) := by decide +kernel
theorem dX12_run_172 : decode cX12_run 172 = .ok (.iload 4, 2) := by decide +kernel
theorem dX12_run_174 : decode cX12_run 174 = .ok (.iconst 1, 1) := by decide +kernel
theorem dX12_run_175 : decode cX12_run 175 = .ok (.iadd, 1) := by decide +kernel
theorem dX12_run_176 : decode cX12_run 176 = .ok (.istore 4, 2) := by decide +kernel
theorem dX12_run_178 : decode cX12_run 178 = .ok (.goto 19, 3) := by decide +kernel
theorem dX12_run_181 : decode cX12_run 181 = .ok (.aload_n 0, 1) := by decide +kernel
theorem dX12_run_182 : decode cX12_run 182 = .ok (.iload 5, 2) := by decide +kernel
theorem dX12_run_184 : decode cX12_run 184 = .ok (.aload_n 0, 1) := by decide +kernel
theorem dX12_run_185 : decode cX12_run 185 = .ok (.getfield 29, 3) := by decide +kernel
theorem dX12_run_188 : decode cX12_run 188 = .ok (.iload 4, 2) := by decide +kernel
theorem dX12_run_190 : decode cX12_run 190 = .ok (.laload, 1) := by decide +kernel
theorem dX12_run_191 : decode cX12_run 191 = .ok (.invokevirtual 483, 3) := by decide +kernel
theorem dX12_run_194 : decode cX12_run 194 = .ok (.iinc 4 1, 3) := by decide +kernel
theorem dX12_run_197 : decode cX12_run 197 = .ok (.goto (-121), 3) := by decide +kernel
theorem dX12_run_200 : decode cX12_run 200 = .ok (.aload_n 0, 1) := by decide +kernel
theorem dX12_run_201 : decode cX12_run 201 = .ok (.getfield 340, 3) := by decide +kernel
theorem dX12_run_204 : decode cX12_run 204 = .ok (.ifCond .le 15, 3) := by decide +kernel
theorem dX12_run_207 : decode cX12_run 207 = .ok (.aload_n 0, 1) := by decide +kernel
theorem dX12_run_208 : decode cX12_run 208 = .ok (.bipush 60, 2) := by decide +kernel
theorem dX12_run_210 : decode cX12_run 210 = .ok (.iconst 0, 1) := by decide +kernel
theorem dX12_run_211 : decode cX12_run 211 = .ok (.lconst 0, 1) := by decide +kernel
theorem dX12_run_212 : decode cX12_run 212 = .ok (.dconst 0, 1) := by decide +kernel
theorem dX12_run_213 : decode cX12_run 213 = .ok (.invokevirtual 314, 3) := by decide +kernel
theorem dX12_run_216 : decode cX12_run 216 = .ok (.goto 10, 3) := by decide +kernel
theorem dX12_run_219 : decode cX12_run 219 = .ok (.aload_n 0, 1) := by decide +kernel
theorem dX12_run_220 : decode cX12_run 220 = .ok (.iconst 0, 1) := by decide +kernel
theorem dX12_run_221 : decode cX12_run 221 = .ok (.bipush 60, 2) := by decide +kernel
theorem dX12_run_223 : decode cX12_run 223 = .ok (.invokevirtual 401, 3) := by decide +kernel
theorem dX12_run_226 : decode cX12_run 226 = .ok (.aload_n 0, 1) := by decide +kernel
theorem dX12_run_227 : decode cX12_run 227 = .ok (.getfield 340, 3) := by decide +kernel
theorem dX12_run_230 : decode cX12_run 230 = .ok (.ireturn, 1) := by decide +kernel
theorem dX12_keep_0 : decode cX12_keep 0 = .ok (.aload_n 0, 1) := by decide +kernel
theorem dX12_keep_1 : decode cX12_keep 1 = .ok (.iload_n 1, 1) := by decide +kernel
theorem dX12_keep_2 : decode cX12_keep 2 = .ok (.invokestatic 302, 3) := by decide +kernel
theorem dX12_keep_5 : decode cX12_keep 5 = .ok (.ifCond .ne 7, 3) := by decide +kernel
theorem dX12_keep_8 : decode cX12_keep 8 = .ok (.iconst 1, 1) := by decide +kernel
theorem dX12_keep_9 : decode cX12_keep 9 = .ok (.goto 4, 3) := by decide +kernel
theorem dX12_keep_12 : decode cX12_keep 12 = .ok (.iconst 0, 1) := by decide +kernel
theorem dX12_keep_13 : decode cX12_keep 13 = .ok (.putfield 127, 3) := by decide +kernel
theorem dX12_keep_16 : decode cX12_keep 16 = .ok (.aload_n 0, 1) := by decide +kernel
theorem dX12_keep_17 : decode cX12_keep 17 = .ok (.getfield 127, 3) := by decide +kernel
theorem dX12_keep_20 : decode cX12_keep 20 = .ok (.ifCond .le 5, 3) := by decide +kernel
theorem dX12_keep_23 : decode cX12_keep 23 = .ok (.iconst 0, 1) := by decide +kernel
theorem dX12_keep_24 : decode cX12_keep 24 = .ok (.ireturn, 1) := by decide +kernel
theorem dX12_keep_25 : decode cX12_keep 25 = .ok (.aload_n 0, 1) := by decide +kernel
theorem dX12_keep_26 : decode cX12_keep 26 = .ok (.iload_n 1, 1) := by decide +kernel
theorem dX12_keep_27 : decode cX12_keep 27 = .ok (.invokevirtual 437, 3) := by decide +kernel
theorem dX12_keep_30 : decode cX12_keep 30 = .ok (.istore_n 2, 1) := by decide +kernel
theorem dX12_keep_31 : decode cX12_keep 31 = .ok (.aload_n 0, 1) := by decide +kernel
theorem dX12_keep_32 : decode cX12_keep 32 = .ok (.iload_n 2, 1) := by decide +kernel
theorem dX12_keep_33 : decode cX12_keep 33 = .ok (.ifCond .ge 7, 3) := by decide +kernel
theorem dX12_keep_36 : decode cX12_keep 36 = .ok (.iconst 2, 1) := by decide +kernel
theorem dX12_keep_37 : decode cX12_keep 37 = .ok (.goto 4, 3) := by decide +kernel
theorem dX12_keep_40 : decode cX12_keep 40 = .ok (.iconst 0, 1) := by decide +kernel
theorem dX12_keep_41 : decode cX12_keep 41 = .ok (.putfield 127, 3) := by decide +kernel
theorem dX12_keep_44 : decode cX12_keep 44 = .ok (.aload_n 0, 1) := by decide +kernel
theorem dX12_keep_45 : decode cX12_keep 45 = .ok (.getfield 127, 3) := by decide +kernel
theorem dX12_keep_48 : decode cX12_keep 48 = .ok (.ifCond .le 5, 3) := by decide +kernel
theorem dX12_keep_51 : decode cX12_keep 51 = .ok (.iconst 0, 1) := by decide +kernel
theorem dX12_keep_52 : decode cX12_keep 52 = .ok (.ireturn, 1) := by decide +kernel
theorem dX12_keep_53 : decode cX12_keep 53 = .ok (.aload_n 0, 1) := by decide +kernel
theorem dX12_keep_54 : decode cX12_keep 54 = .ok (.bipush 60, 2) := by decide +kernel
theorem dX12_keep_56 : decode cX12_keep 56 = .ok (.iload_n 2, 1) := by decide +kernel
theorem dX12_keep_57 : decode cX12_keep 57 = .ok (.invokevirtual 401, 3) := by decide +kernel
theorem dX12_keep_60 : decode cX12_keep 60 = .ok (.aload_n 0, 1) := by decide +kernel
theorem dX12_keep_61 : decode cX12_keep 61 = .ok (.getfield 111, 3) := by decide +kernel
theorem dX12_keep_64 : decode cX12_keep 64 = .ok (.iload_n 2, 1) := by decide +kernel
theorem dX12_keep_65 : decode cX12_keep 65 = .ok (.iaload, 1) := by decide +kernel
theorem dX12_keep_66 : decode cX12_keep 66 = .ok (.ireturn, 1) := by decide +kernel
theorem dX12_put_0 : decode cX12_put 0 = .ok (.aload_n 0, 1) := by decide +kernel
theorem dX12_put_1 : decode cX12_put 1 = .ok (.iload_n 1, 1) := by decide +kernel
theorem dX12_put_2 : decode cX12_put 2 = .ok (.ifCond .lt 11, 3) := by decide +kernel
theorem dX12_put_5 : decode cX12_put 5 = .ok (.iload_n 1, 1) := by decide +kernel
theorem dX12_put_6 : decode cX12_put 6 = .ok (.aload_n 0, 1) := by decide +kernel
theorem dX12_put_7 : decode cX12_put 7 = .ok (.getfield 308, 3) := by decide +kernel
theorem dX12_put_10 : decode cX12_put 10 = .ok (.if_icmp .lt 7, 3) := by decide +kernel
theorem dX12_put_13 : decode cX12_put 13 = .ok (.iconst 1, 1) := by decide +kernel
theorem dX12_put_14 : decode cX12_put 14 = .ok (.goto 4, 3) := by decide +kernel
theorem dX12_put_17 : decode cX12_put 17 = .ok (.iconst 0, 1) := by decide +kernel
theorem dX12_put_18 : decode cX12_put 18 = .ok (.putfield 127, 3) := by decide +kernel
theorem dX12_put_21 : decode cX12_put 21 = .ok (.aload_n 0, 1) := by decide +kernel
theorem dX12_put_22 : decode cX12_put 22 = .ok (.getfield 127, 3) := by decide +kernel
theorem dX12_put_25 : decode cX12_put 25 = .ok (.ifCond .le 5, 3) := by decide +kernel
theorem dX12_put_28 : decode cX12_put 28 = .ok (.iconst 0, 1) := by decide +kernel
theorem dX12_put_29 : decode cX12_put 29 = .ok (.ireturn, 1) := by decide +kernel
theorem dX12_put_30 : decode cX12_put 30 = .ok (.aload_n 0, 1) := by decide +kernel
theorem dX12_put_31 : decode cX12_put 31 = .ok (.iconst 0, 1) := by decide +kernel
theorem dX12_put_32 : decode cX12_put 32 = .ok (.putfield 340, 3) := by decide +kernel
theorem dX12_put_35 : decode cX12_put 35 = .ok (.aload_n 0, 1) := by decide +kernel
theorem dX12_put_36 : decode cX12_put 36 = .ok (.bipush 61, 2) := by decide +kernel
theorem dX12_put_38 : decode cX12_put 38 = .ok (.bipush 8, 2) := by decide +kernel
theorem dX12_put_40 : decode cX12_put 40 = .ok (.aload_n 0, 1) := by decide +kernel
theorem dX12_put_41 : decode cX12_put 41 = .ok (.getfield 105, 3) := by decide +kernel
theorem dX12_put_44 : decode cX12_put 44 = .ok (.iload_n 1, 1) := by decide +kernel
theorem dX12_put_45 : decode cX12_put 45 = .ok (.iaload, 1) := by decide +kernel
theorem dX12_put_46 : decode cX12_put 46 = .ok (.iadd, 1) := by decide +kernel
theorem dX12_put_47 : decode cX12_put 47 = .ok (.iload_n 1, 1) := by decide +kernel
theorem dX12_put_48 : decode cX12_put 48 = .ok (.i2l, 1) := by decide +kernel
theorem dX12_put_49 : decode cX12_put 49 = .ok (.dconst 0, 1) := by decide +kernel
theorem dX12_put_50 : decode cX12_put 50 = .ok (.invokevirtual 314, 3) := by decide +kernel
theorem dX12_put_53 : decode cX12_put 53 = .ok (.aload_n 0, 1) := by decide +kernel
theorem dX12_put_54 : decode cX12_put 54 = .ok (.bipush 61, 2) := by decide +kernel
theorem dX12_put_56 : decode cX12_put 56 = .ok (.iload_n 2, 1) := by decide +kernel
theorem dX12_put_57 : decode cX12_put 57 = .ok (.invokevirtual 398, 3) := by decide +kernel
theorem dX12_put_60 : decode cX12_put 60 = .ok (.istore_n 3, 1) := by decide +kernel
theorem dX12_put_61 : decode cX12_put 61 = .ok (.iload_n 3, 1) := by decide +kernel
theorem dX12_put_62 : decode cX12_put 62 = .ok (.ifCond .ge 5, 3) := by decide +kernel
theorem dX12_put_65 : decode cX12_put 65 = .ok (.iconst 5, 1) := by decide +kernel
theorem dX12_put_66 : decode cX12_put 66 = .ok (.ireturn, 1) := by decide +kernel
theorem dX12_put_67 : decode cX12_put 67 = .ok (.aload_n 0, 1) := by decide +kernel
theorem dX12_put_68 : decode cX12_put 68 = .ok (.bipush 60, 2) := by decide +kernel
theorem dX12_put_70 : decode cX12_put 70 = .ok (.bipush 61, 2) := by decide +kernel
theorem dX12_put_72 : decode cX12_put 72 = .ok (.invokevirtual 401, 3) := by decide +kernel
theorem dX12_put_75 : decode cX12_put 75 = .ok (.aload_n 0, 1) := by decide +kernel
theorem dX12_put_76 : decode cX12_put 76 = .ok (.bipush 61, 2) := by decide +kernel
theorem dX12_put_78 : decode cX12_put 78 = .ok (.aload_n 0, 1) := by decide +kernel
theorem dX12_put_79 : decode cX12_put 79 = .ok (.iload_n 3, 1) := by decide +kernel
theorem dX12_put_80 : decode cX12_put 80 = .ok (.invokevirtual 440, 3) := by decide +kernel
theorem dX12_put_83 : decode cX12_put 83 = .ok (.invokevirtual 425, 3) := by decide +kernel
theorem dX12_put_86 : decode cX12_put 86 = .ok (.aload_n 0, 1) := by decide +kernel
theorem dX12_put_87 : decode cX12_put 87 = .ok (.getfield 340, 3) := by decide +kernel
theorem dX12_put_90 : decode cX12_put 90 = .ok (.ifCond .ne 10, 3) := by decide +kernel
theorem dX12_put_93 : decode cX12_put 93 = .ok (.aload_n 0, 1) := by decide +kernel
theorem dX12_put_94 : decode cX12_put 94 = .ok (.bipush 61, 2) := by decide +kernel
theorem dX12_put_96 : decode cX12_put 96 = .ok (.iload_n 3, 1) := by decide +kernel
theorem dX12_put_97 : decode cX12_put 97 = .ok (.invokevirtual 401, 3) := by decide +kernel
theorem dX12_put_100 : decode cX12_put 100 = .ok (.aload_n 0, 1) := by decide +kernel
theorem dX12_put_101 : decode cX12_put 101 = .ok (.getfield 340, 3) := by decide +kernel
theorem dX12_put_104 : decode cX12_put 104 = .ok (.ireturn, 1) := by decide +kernel
theorem dX12_result_0 : decode cX12_result 0 = .ok (.aload_n 0, 1) := by decide +kernel
theorem dX12_result_1 : decode cX12_result 1 = .ok (.iconst 0, 1) := by decide +kernel
theorem dX12_result_2 : decode cX12_result 2 = .ok (.putfield 127, 3) := by decide +kernel
theorem dX12_result_5 : decode cX12_result 5 = .ok (.iload_n 1, 1) := by decide +kernel
theorem dX12_result_6 : decode cX12_result 6 = .ok (.ifCond .lt 8, 3) := by decide +kernel
theorem dX12_result_9 : decode cX12_result 9 = .ok (.iload_n 1, 1) := by decide +kernel
theorem dX12_result_10 : decode cX12_result 10 = .ok (.iconst 2, 1) := by decide +kernel
theorem dX12_result_11 : decode cX12_result 11 = .ok (.if_icmp .le 5, 3) := by decide +kernel
theorem dX12_result_14 : decode cX12_result 14 = .ok (.iconst (-1), 1) := by decide +kernel
theorem dX12_result_15 : decode cX12_result 15 = .ok (.ireturn, 1) := by decide +kernel
theorem dX12_result_16 : decode cX12_result 16 = .ok (.aload_n 0, 1) := by decide +kernel
theorem dX12_result_17 : decode cX12_result 17 = .ok (.getfield 111, 3) := by decide +kernel
theorem dX12_result_20 : decode cX12_result 20 = .ok (.bipush 60, 2) := by decide +kernel
theorem dX12_result_22 : decode cX12_result 22 = .ok (.iaload, 1) := by decide +kernel
theorem dX12_result_23 : decode cX12_result 23 = .ok (.istore_n 2, 1) := by decide +kernel
theorem dX12_result_24 : decode cX12_result 24 = .ok (.iload_n 1, 1) := by decide +kernel
theorem dX12_result_25 : decode cX12_result 25 = .ok (.ifCond .ne 5, 3) := by decide +kernel
theorem dX12_result_28 : decode cX12_result 28 = .ok (.iload_n 2, 1) := by decide +kernel
theorem dX12_result_29 : decode cX12_result 29 = .ok (.ireturn, 1) := by decide +kernel
theorem dX12_result_30 : decode cX12_result 30 = .ok (.iload_n 1, 1) := by decide +kernel
theorem dX12_result_31 : decode cX12_result 31 = .ok (.iconst 2, 1) := by decide +kernel
theorem dX12_result_32 : decode cX12_result 32 = .ok (.if_icmp .ne 25, 3) := by decide +kernel
theorem dX12_result_35 : decode cX12_result 35 = .ok (.iload_n 2, 1) := by decide +kernel
theorem dX12_result_36 : decode cX12_result 36 = .ok (.iconst 3, 1) := by decide +kernel
theorem dX12_result_37 : decode cX12_result 37 = .ok (.if_icmp .ne 18, 3) := by decide +kernel
theorem dX12_result_40 : decode cX12_result 40 = .ok (.ldc2_w 451, 3) := by decide +kernel
theorem dX12_result_43 : decode cX12_result 43 = .ok (.aload_n 0, 1) := by decide +kernel
theorem dX12_result_44 : decode cX12_result 44 = .ok (.getfield 120, 3) := by decide +kernel
theorem dX12_result_47 : decode cX12_result 47 = .ok (.bipush 60, 2) := by decide +kernel
theorem dX12_result_49 : decode cX12_result 49 = .ok (.daload, 1) := by decide +kernel
theorem dX12_result_50 : decode cX12_result 50 = .ok (.dmul, 1) := by decide +kernel
theorem dX12_result_51 : decode cX12_result 51 = .ok (.d2i, 1) := by decide +kernel
theorem dX12_result_52 : decode cX12_result 52 = .ok (.goto 4, 3) := by decide +kernel
theorem dX12_result_55 : decode cX12_result 55 = .ok (.iconst 0, 1) := by decide +kernel
theorem dX12_result_56 : decode cX12_result 56 = .ok (.ireturn, 1) := by decide +kernel
theorem dX12_result_57 : decode cX12_result 57 = .ok (.iload_n 2, 1) := by decide +kernel
theorem dX12_result_58 : decode cX12_result 58 = .ok (.iconst 3, 1) := by decide +kernel
theorem dX12_result_59 : decode cX12_result 59 = .ok (.if_icmp .ne 14, 3) := by decide +kernel
theorem dX12_result_62 : decode cX12_result 62 = .ok (.aload_n 0, 1) := by decide +kernel
theorem dX12_result_63 : decode cX12_result 63 = .ok (.getfield 120, 3) := by decide +kernel
theorem dX12_result_66 : decode cX12_result 66 = .ok (.bipush 60, 2) := by decide +kernel
theorem dX12_result_68 : decode cX12_result 68 = .ok (.daload, 1) := by decide +kernel
theorem dX12_result_69 : decode cX12_result 69 = .ok (.d2i, 1) := by decide +kernel
theorem dX12_result_70 : decode cX12_result 70 = .ok (.goto 25, 3) := by decide +kernel
theorem dX12_result_73 : decode cX12_result 73 = .ok (.iload_n 2, 1) := by decide +kernel
theorem dX12_result_74 : decode cX12_result 74 = .ok (.iconst 4, 1) := by decide +kernel
theorem dX12_result_75 : decode cX12_result 75 = .ok (.if_icmp .ne 12, 3) := by decide +kernel
theorem dX12_result_78 : decode cX12_result 78 = .ok (.aload_n 0, 1) := by decide +kernel
theorem dX12_result_79 : decode cX12_result 79 = .ok (.bipush 60, 2) := by decide +kernel
theorem dX12_result_81 : decode cX12_result 81 = .ok (.invokevirtual 326, 3) := by decide +kernel
theorem dX12_result_84 : decode cX12_result 84 = .ok (.goto 11, 3) := by decide +kernel
theorem dX12_result_87 : decode cX12_result 87 = .ok (.aload_n 0, 1) := by decide +kernel
theorem dX12_result_88 : decode cX12_result 88 = .ok (.getfield 114, 3) := by decide +kernel
theorem dX12_result_91 : decode cX12_result 91 = .ok (.bipush 60, 2) := by decide +kernel
theorem dX12_result_93 : decode cX12_result 93 = .ok (.laload, 1) := by decide +kernel
theorem dX12_result_94 : decode cX12_result 94 = .ok (.l2i, 1) := by decide +kernel
theorem dX12_result_95 : decode cX12_result 95 = .ok (.ireturn, 1) := by decide +kernel
theorem dX12_text_0 : decode cX12_text 0 = .ok (.aload_n 0, 1) := by decide +kernel
theorem dX12_text_1 : decode cX12_text 1 = .ok (.iconst 0, 1) := by decide +kernel
theorem dX12_text_2 : decode cX12_text 2 = .ok (.putfield 127, 3) := by decide +kernel
theorem dX12_text_5 : decode cX12_text 5 = .ok (.aload_n 0, 1) := by decide +kernel
theorem dX12_text_6 : decode cX12_text 6 = .ok (.getfield 111, 3) := by decide +kernel
theorem dX12_text_9 : decode cX12_text 9 = .ok (.bipush 60, 2) := by decide +kernel
theorem dX12_text_11 : decode cX12_text 11 = .ok (.iaload, 1) := by decide +kernel
theorem dX12_text_12 : decode cX12_text 12 = .ok (.iconst 4, 1) := by decide +kernel
theorem dX12_text_13 : decode cX12_text 13 = .ok (.if_icmp .ne 27, 3) := by decide +kernel
theorem dX12_text_16 : decode cX12_text 16 = .ok (.iload_n 1, 1) := by decide +kernel
theorem dX12_text_17 : decode cX12_text 17 = .ok (.ifCond .lt 23, 3) := by decide +kernel
theorem dX12_text_20 : decode cX12_text 20 = .ok (.iload_n 1, 1) := by decide +kernel
theorem dX12_text_21 : decode cX12_text 21 = .ok (.aload_n 0, 1) := by decide +kernel
theorem dX12_text_22 : decode cX12_text 22 = .ok (.bipush 60, 2) := by decide +kernel
theorem dX12_text_24 : decode cX12_text 24 = .ok (.invokevirtual 326, 3) := by decide +kernel
theorem dX12_text_27 : decode cX12_text 27 = .ok (.if_icmp .ge 13, 3) := by decide +kernel
theorem dX12_text_30 : decode cX12_text 30 = .ok (.aload_n 0, 1) := by decide +kernel
theorem dX12_text_31 : decode cX12_text 31 = .ok (.bipush 60, 2) := by decide +kernel
theorem dX12_text_33 : decode cX12_text 33 = .ok (.iload_n 1, 1) := by decide +kernel
theorem dX12_text_34 : decode cX12_text 34 = .ok (.invokevirtual 329, 3) := by decide +kernel
theorem dX12_text_37 : decode cX12_text 37 = .ok (.goto 4, 3) := by decide +kernel
theorem dX12_text_40 : decode cX12_text 40 = .ok (.iconst (-1), 1) := by decide +kernel
theorem dX12_text_41 : decode cX12_text 41 = .ok (.ireturn, 1) := by decide +kernel
theorem dX12_about_0 : decode cX12_about 0 = .ok (.aload_n 0, 1) := by decide +kernel
theorem dX12_about_1 : decode cX12_about 1 = .ok (.iconst 0, 1) := by decide +kernel
theorem dX12_about_2 : decode cX12_about 2 = .ok (.putfield 127, 3) := by decide +kernel
theorem dX12_about_5 : decode cX12_about 5 = .ok (.iload_n 1, 1) := by decide +kernel
theorem dX12_about_6 : decode cX12_about 6 = .ok (.tableswitch 59 0 4 #[34, 39, 44, 49, 54], 34) := by decide +kernel
theorem dX12_about_40 : decode cX12_about 40 = .ok (.aload_n 0, 1) := by decide +kernel
theorem dX12_about_41 : decode cX12_about 41 = .ok (.getfield 131, 3) := by decide +kernel
theorem dX12_about_44 : decode cX12_about 44 = .ok (.ireturn, 1) := by decide +kernel
theorem dX12_about_45 : decode cX12_about 45 = .ok (.aload_n 0, 1) := by decide +kernel
theorem dX12_about_46 : decode cX12_about 46 = .ok (.getfield 283, 3) := by decide +kernel
theorem dX12_about_49 : decode cX12_about 49 = .ok (.ireturn, 1) := by decide +kernel
theorem dX12_about_50 : decode cX12_about 50 = .ok (.aload_n 0, 1) := by decide +kernel
theorem dX12_about_51 : decode cX12_about 51 = .ok (.getfield 295, 3) := by decide +kernel
theorem dX12_about_54 : decode cX12_about 54 = .ok (.ireturn, 1) := by decide +kernel
theorem dX12_about_55 : decode cX12_about 55 = .ok (.aload_n 0, 1) := by decide +kernel
theorem dX12_about_56 : decode cX12_about 56 = .ok (.getfield 308, 3) := by decide +kernel
theorem dX12_about_59 : decode cX12_about 59 = .ok (.ireturn, 1) := by decide +kernel
theorem dX12_about_60 : decode cX12_about 60 = .ok (.aload_n 0, 1) := by decide +kernel
theorem dX12_about_61 : decode cX12_about 61 = .ok (.getfield 431, 3) := by decide +kernel
theorem dX12_about_64 : decode cX12_about 64 = .ok (.ireturn, 1) := by decide +kernel
theorem dX12_about_65 : decode cX12_about 65 = .ok (.iconst (-1), 1) := by decide +kernel
theorem dX12_about_66 : decode cX12_about 66 = .ok (.ireturn, 1) := by decide +kernel
abbrev vwCl : List vw_C := [(RJ0, TJ0, 4), (RJ4, TJ4, 4), (RX0, TX0, 2), (RX1, TX1, 7), (RX2, TX2, 3), (RX3, TX3, 3), (RX4, TX4, 8), (RX5, TX5, 8), (RX6, TX6, 4), (RX7, TX7, 6), (RX8, TX8, 8), (RX9, TX9, 3), (RX10, TX10, 5), (RX11, TX11, 9), (RX12, TX12, 60)]
