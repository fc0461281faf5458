def RX0 : String := "PhraseDesk$Converters"
def TX0 : u_T := fun k => match k with
  | 0 => ("PhraseDesk$Converters", "there", "[Z", true)
  | _ => ("PhraseDesk$Converters", "scratch", "Ljava/lang/StringBuilder;", true)
def tyX0 : Nat → FieldType := fun k => match k with
  | 0 => .array .boolean
  | _ => .object "java/lang/StringBuilder"
abbrev wsX00 : List Cond := u_ws RX0 TX0 2
theorem nmX0 : ∀ a, a < 2 → ∀ b, b < 2 → a ≠ b → (TX0 a).2.1 ≠ (TX0 b).2.1 := by decide +kernel
theorem tyX0_ok : ∀ k, k < 2 → parseFieldDescriptor (TX0 k).2.2.1 = some (tyX0 k) := by decide +kernel
abbrev cX0_init : ByteArray := prog_2_method_1_code
def yX0_init : MethodName := ⟨RX0, "<init>", "()V"⟩
def RX1 : String := "PhraseDesk$Family"
def TX1 : u_T := fun k => match k with
  | 0 => ("PhraseDesk$Family", "number", "I", true)
  | 1 => ("PhraseDesk$Family", "kind", "I", true)
  | 2 => ("PhraseDesk$Family", "parent", "LPhraseDesk$Family;", true)
  | 3 => ("PhraseDesk$Family", "fields", "[LPhraseDesk$Field;", true)
  | 4 => ("PhraseDesk$Family", "fieldCount", "I", false)
  | 5 => ("PhraseDesk$Family", "routines", "[LPhraseDesk$Routine;", true)
  | _ => ("PhraseDesk$Family", "routineCount", "I", false)
def RX2 : String := "PhraseDesk$Field"
def TX2 : u_T := fun k => match k with
  | 0 => ("PhraseDesk$Field", "name", "I", true)
  | 1 => ("PhraseDesk$Field", "type", "I", true)
  | _ => ("PhraseDesk$Field", "slot", "I", true)
def RX3 : String := "PhraseDesk$Finder"
def TX3 : u_T := fun k => match k with
  | 0 => ("PhraseDesk$Finder", "candidates", "[LPhraseDesk$Routine;", true)
  | 1 => ("PhraseDesk$Finder", "count", "I", false)
  | _ => ("PhraseDesk$Finder", "failure", "I", false)
def tyX3 : Nat → FieldType := fun k => match k with
  | 0 => .array (.object "PhraseDesk$Routine")
  | 1 => .int
  | _ => .int
abbrev wsX30 : List Cond := u_ws RX3 TX3 3
theorem nmX3 : ∀ a, a < 3 → ∀ b, b < 3 → a ≠ b → (TX3 a).2.1 ≠ (TX3 b).2.1 := by decide +kernel
theorem tyX3_ok : ∀ k, k < 3 → parseFieldDescriptor (TX3 k).2.2.1 = some (tyX3 k) := by decide +kernel
abbrev cX3_init : ByteArray := prog_5_method_1_code
def yX3_init : MethodName := ⟨RX3, "<init>", "()V"⟩
def RX4 : String := "PhraseDesk$Lexer"
def TX4 : u_T := fun k => match k with
  | 0 => ("PhraseDesk$Lexer", "letters", "[C", true)
  | 1 => ("PhraseDesk$Lexer", "length", "I", false)
  | 2 => ("PhraseDesk$Lexer", "kinds", "[I", true)
  | 3 => ("PhraseDesk$Lexer", "places", "[I", true)
  | 4 => ("PhraseDesk$Lexer", "names", "[I", true)
  | 5 => ("PhraseDesk$Lexer", "literals", "[LPhraseDesk$Value;", true)
  | 6 => ("PhraseDesk$Lexer", "count", "I", false)
  | _ => ("PhraseDesk$Lexer", "scratch", "Ljava/lang/StringBuilder;", true)
def tyX4 : Nat → FieldType := fun k => match k with
  | 0 => .array .char
  | 1 => .int
  | 2 => .array .int
  | 3 => .array .int
  | 4 => .array .int
  | 5 => .array (.object "PhraseDesk$Value")
  | 6 => .int
  | _ => .object "java/lang/StringBuilder"
abbrev wsX40 : List Cond := u_ws RX4 TX4 8
theorem nmX4 : ∀ a, a < 8 → ∀ b, b < 8 → a ≠ b → (TX4 a).2.1 ≠ (TX4 b).2.1 := by decide +kernel
theorem tyX4_ok : ∀ k, k < 8 → parseFieldDescriptor (TX4 k).2.2.1 = some (tyX4 k) := by decide +kernel
abbrev cX4_init : ByteArray := prog_6_method_1_code
def yX4_init : MethodName := ⟨RX4, "<init>", "()V"⟩
def RX5 : String := "PhraseDesk$Node"
def TX5 : u_T := fun k => match k with
  | 0 => ("PhraseDesk$Node", "op", "I", true)
  | 1 => ("PhraseDesk$Node", "name", "I", true)
  | 2 => ("PhraseDesk$Node", "literal", "LPhraseDesk$Value;", true)
  | 3 => ("PhraseDesk$Node", "one", "LPhraseDesk$Node;", true)
  | 4 => ("PhraseDesk$Node", "two", "LPhraseDesk$Node;", true)
  | 5 => ("PhraseDesk$Node", "three", "LPhraseDesk$Node;", true)
  | 6 => ("PhraseDesk$Node", "lenient", "Z", false)
  | _ => ("PhraseDesk$Node", "bracketed", "Z", false)
def RX6 : String := "PhraseDesk$Parser"
def TX6 : u_T := fun k => match k with
  | 0 => ("PhraseDesk$Parser", "lexer", "LPhraseDesk$Lexer;", true)
  | 1 => ("PhraseDesk$Parser", "at", "I", false)
  | 2 => ("PhraseDesk$Parser", "error", "I", false)
  | _ => ("PhraseDesk$Parser", "place", "I", false)
def tyX6 : Nat → FieldType := fun k => match k with
  | 0 => .object "PhraseDesk$Lexer"
  | 1 => .int
  | 2 => .int
  | _ => .int
abbrev wsX60 : List Cond := u_ws RX6 TX6 4
theorem nmX6 : ∀ a, a < 4 → ∀ b, b < 4 → a ≠ b → (TX6 a).2.1 ≠ (TX6 b).2.1 := by decide +kernel
theorem tyX6_ok : ∀ k, k < 4 → parseFieldDescriptor (TX6 k).2.2.1 = some (tyX6 k) := by decide +kernel
abbrev cX6_init : ByteArray := prog_8_method_1_code
def yX6_init : MethodName := ⟨RX6, "<init>", "()V"⟩
def RX7 : String := "PhraseDesk$Routine"
def TX7 : u_T := fun k => match k with
  | 0 => ("PhraseDesk$Routine", "name", "I", true)
  | 1 => ("PhraseDesk$Routine", "one", "I", true)
  | 2 => ("PhraseDesk$Routine", "two", "I", true)
  | 3 => ("PhraseDesk$Routine", "parameters", "I", true)
  | 4 => ("PhraseDesk$Routine", "action", "I", true)
  | _ => ("PhraseDesk$Routine", "number", "I", true)
def RX8 : String := "PhraseDesk$Runner"
def TX8 : u_T := fun k => match k with
  | 0 => ("PhraseDesk$Runner", "nothing", "LPhraseDesk$Value;", true)
  | 1 => ("PhraseDesk$Runner", "converters", "LPhraseDesk$Converters;", true)
  | 2 => ("PhraseDesk$Runner", "finder", "LPhraseDesk$Finder;", true)
  | 3 => ("PhraseDesk$Runner", "variableNames", "[I", true)
  | 4 => ("PhraseDesk$Runner", "variableValues", "[LPhraseDesk$Value;", true)
  | 5 => ("PhraseDesk$Runner", "variableCount", "I", false)
  | 6 => ("PhraseDesk$Runner", "root", "LPhraseDesk$Value;", false)
  | _ => ("PhraseDesk$Runner", "failure", "I", false)
def tyX8 : Nat → FieldType := fun k => match k with
  | 0 => .object "PhraseDesk$Value"
  | 1 => .object "PhraseDesk$Converters"
  | 2 => .object "PhraseDesk$Finder"
  | 3 => .array .int
  | 4 => .array (.object "PhraseDesk$Value")
  | 5 => .int
  | 6 => .object "PhraseDesk$Value"
  | _ => .int
abbrev wsX80 : List Cond := u_ws RX8 TX8 8
theorem nmX8 : ∀ a, a < 8 → ∀ b, b < 8 → a ≠ b → (TX8 a).2.1 ≠ (TX8 b).2.1 := by decide +kernel
theorem tyX8_ok : ∀ k, k < 8 → parseFieldDescriptor (TX8 k).2.2.1 = some (tyX8 k) := by decide +kernel
abbrev cX8_init : ByteArray := prog_10_method_1_code
def yX8_init : MethodName := ⟨RX8, "<init>", "()V"⟩
def RX9 : String := "PhraseDesk$Thing"
def TX9 : u_T := fun k => match k with
  | 0 => ("PhraseDesk$Thing", "number", "I", true)
  | 1 => ("PhraseDesk$Thing", "family", "LPhraseDesk$Family;", true)
  | _ => ("PhraseDesk$Thing", "values", "[LPhraseDesk$Value;", true)
def RX10 : String := "PhraseDesk$Value"
def TX10 : u_T := fun k => match k with
  | 0 => ("PhraseDesk$Value", "kind", "I", true)
  | 1 => ("PhraseDesk$Value", "number", "I", true)
  | 2 => ("PhraseDesk$Value", "real", "D", true)
  | 3 => ("PhraseDesk$Value", "chars", "Ljava/lang/String;", true)
  | _ => ("PhraseDesk$Value", "thing", "LPhraseDesk$Thing;", true)
def tyX10 : Nat → FieldType := fun k => match k with
  | 0 => .int
  | 1 => .int
  | 2 => .double
  | 3 => .object "java/lang/String"
  | _ => .object "PhraseDesk$Thing"
abbrev wsX100 : List Cond := u_ws RX10 TX10 5
theorem nmX10 : ∀ a, a < 5 → ∀ b, b < 5 → a ≠ b → (TX10 a).2.1 ≠ (TX10 b).2.1 := by decide +kernel
theorem tyX10_ok : ∀ k, k < 5 → parseFieldDescriptor (TX10 k).2.2.1 = some (tyX10 k) := by decide +kernel
abbrev cX10_init : ByteArray := prog_12_method_1_code
def yX10_init : MethodName := ⟨RX10, "<init>", "(IIDLjava/lang/String;LPhraseDesk$Thing;)V"⟩
abbrev cX10_ofNull : ByteArray := prog_12_method_2_code
def yX10_ofNull : MethodName := ⟨RX10, "ofNull", "()LPhraseDesk$Value;"⟩
def RX11 : String := "PhraseDesk"
def TX11 : u_T := fun k => match k with
  | 0 => ("PhraseDesk", "parser", "LPhraseDesk$Parser;", true)
  | 1 => ("PhraseDesk", "runner", "LPhraseDesk$Runner;", true)
  | 2 => ("PhraseDesk", "programs", "[LPhraseDesk$Node;", true)
  | 3 => ("PhraseDesk", "programCount", "I", false)
  | 4 => ("PhraseDesk", "families", "[LPhraseDesk$Family;", true)
  | 5 => ("PhraseDesk", "familyCount", "I", false)
  | 6 => ("PhraseDesk", "objects", "[LPhraseDesk$Value;", true)
  | 7 => ("PhraseDesk", "objectCount", "I", false)
  | _ => ("PhraseDesk", "latest", "LPhraseDesk$Value;", false)
def tyX11 : Nat → FieldType := fun k => match k with
  | 0 => .object "PhraseDesk$Parser"
  | 1 => .object "PhraseDesk$Runner"
  | 2 => .array (.object "PhraseDesk$Node")
  | 3 => .int
  | 4 => .array (.object "PhraseDesk$Family")
  | 5 => .int
  | 6 => .array (.object "PhraseDesk$Value")
  | 7 => .int
  | _ => .object "PhraseDesk$Value"
abbrev wsX110 : List Cond := u_ws RX11 TX11 9
theorem nmX11 : ∀ a, a < 9 → ∀ b, b < 9 → a ≠ b → (TX11 a).2.1 ≠ (TX11 b).2.1 := by decide +kernel
theorem tyX11_ok : ∀ k, k < 9 → parseFieldDescriptor (TX11 k).2.2.1 = some (tyX11 k) := by decide +kernel
abbrev cX11_init : ByteArray := prog_1_method_1_code
def yX11_init : MethodName := ⟨RX11, "<init>", "()V"⟩
def RX12 : String := "PhraseDeskModel"
def TX12 : u_T := fun k => match k with
  | 0 => ("PhraseDeskModel", "threw", "I", false)
  | 1 => ("PhraseDeskModel", "size", "I", false)
  | 2 => ("PhraseDeskModel", "letters", "[I", true)
  | 3 => ("PhraseDeskModel", "tokens", "I", false)
  | 4 => ("PhraseDeskModel", "tokenKind", "[I", true)
  | 5 => ("PhraseDeskModel", "tokenAt", "[I", true)
  | 6 => ("PhraseDeskModel", "token", "[J", true)
  | 7 => ("PhraseDeskModel", "scale", "[I", true)
  | 8 => ("PhraseDeskModel", "error", "I", false)
  | 9 => ("PhraseDeskModel", "where", "I", false)
  | 10 => ("PhraseDeskModel", "programs", "I", false)
  | 11 => ("PhraseDeskModel", "step", "[I", true)
  | 12 => ("PhraseDeskModel", "with", "[J", true)
  | 13 => ("PhraseDeskModel", "lengths", "[I", true)
  | 14 => ("PhraseDeskModel", "next", "I", false)
  | 15 => ("PhraseDeskModel", "start", "I", false)
  | 16 => ("PhraseDeskModel", "written", "I", false)
  | 17 => ("PhraseDeskModel", "operand", "Z", false)
  | 18 => ("PhraseDeskModel", "done", "Z", false)
  | 19 => ("PhraseDeskModel", "frames", "I", false)
  | 20 => ("PhraseDeskModel", "frame", "[I", true)
  | 21 => ("PhraseDeskModel", "base", "[I", true)
  | 22 => ("PhraseDeskModel", "sign", "[I", true)
  | 23 => ("PhraseDeskModel", "patch", "[I", true)
  | 24 => ("PhraseDeskModel", "callName", "[I", true)
  | 25 => ("PhraseDeskModel", "callCount", "[I", true)
  | 26 => ("PhraseDeskModel", "closed", "[Z", true)
  | 27 => ("PhraseDeskModel", "plain", "[Z", true)
  | 28 => ("PhraseDeskModel", "aims", "[Z", true)
  | 29 => ("PhraseDeskModel", "waiting", "I", false)
  | 30 => ("PhraseDeskModel", "operation", "[I", true)
  | 31 => ("PhraseDeskModel", "level", "[I", true)
  | 32 => ("PhraseDeskModel", "jump", "[I", true)
  | 33 => ("PhraseDeskModel", "target", "I", false)
  | 34 => ("PhraseDeskModel", "targetStep", "I", false)
  | 35 => ("PhraseDeskModel", "classes", "I", false)
  | 36 => ("PhraseDeskModel", "parent", "[I", true)
  | 37 => ("PhraseDeskModel", "fields", "[I", true)
  | 38 => ("PhraseDeskModel", "fieldName", "[I", true)
  | 39 => ("PhraseDeskModel", "fieldType", "[I", true)
  | 40 => ("PhraseDeskModel", "methods", "[I", true)
  | 41 => ("PhraseDeskModel", "methodName", "[I", true)
  | 42 => ("PhraseDeskModel", "one", "[I", true)
  | 43 => ("PhraseDeskModel", "two", "[I", true)
  | 44 => ("PhraseDeskModel", "action", "[I", true)
  | 45 => ("PhraseDeskModel", "methodNumber", "[I", true)
  | 46 => ("PhraseDeskModel", "converts", "[Z", true)
  | 47 => ("PhraseDeskModel", "objects", "I", false)
  | 48 => ("PhraseDeskModel", "classOf", "[I", true)
  | 49 => ("PhraseDeskModel", "variables", "I", false)
  | 50 => ("PhraseDeskModel", "variable", "[I", true)
  | 51 => ("PhraseDeskModel", "kind", "[I", true)
  | 52 => ("PhraseDeskModel", "a", "[J", true)
  | 53 => ("PhraseDeskModel", "b", "[J", true)
  | 54 => ("PhraseDeskModel", "real", "[D", true)
  | 55 => ("PhraseDeskModel", "top", "I", false)
  | 56 => ("PhraseDeskModel", "failure", "I", false)
  | 57 => ("PhraseDeskModel", "root", "I", false)
  | 58 => ("PhraseDeskModel", "built", "[I", true)
  | _ => ("PhraseDeskModel", "builtSize", "I", false)
def tyX12 : Nat → FieldType := fun k => match k with
  | 0 => .int
  | 1 => .int
  | 2 => .array .int
  | 3 => .int
  | 4 => .array .int
  | 5 => .array .int
  | 6 => .array .long
  | 7 => .array .int
  | 8 => .int
  | 9 => .int
  | 10 => .int
  | 11 => .array .int
  | 12 => .array .long
  | 13 => .array .int
  | 14 => .int
  | 15 => .int
  | 16 => .int
  | 17 => .boolean
  | 18 => .boolean
  | 19 => .int
  | 20 => .array .int
  | 21 => .array .int
  | 22 => .array .int
  | 23 => .array .int
  | 24 => .array .int
  | 25 => .array .int
  | 26 => .array .boolean
  | 27 => .array .boolean
  | 28 => .array .boolean
  | 29 => .int
  | 30 => .array .int
  | 31 => .array .int
  | 32 => .array .int
  | 33 => .int
  | 34 => .int
  | 35 => .int
  | 36 => .array .int
  | 37 => .array .int
  | 38 => .array .int
  | 39 => .array .int
  | 40 => .array .int
  | 41 => .array .int
  | 42 => .array .int
  | 43 => .array .int
  | 44 => .array .int
  | 45 => .array .int
  | 46 => .array .boolean
  | 47 => .int
  | 48 => .array .int
  | 49 => .int
  | 50 => .array .int
  | 51 => .array .int
  | 52 => .array .long
  | 53 => .array .long
  | 54 => .array .double
  | 55 => .int
  | 56 => .int
  | 57 => .int
  | 58 => .array .int
  | _ => .int
abbrev wsX120 : List Cond := u_ws RX12 TX12 60
theorem nmX12 : ∀ a, a < 60 → ∀ b, b < 60 → a ≠ b → (TX12 a).2.1 ≠ (TX12 b).2.1 := by decide +kernel
theorem tyX12_ok : ∀ k, k < 60 → parseFieldDescriptor (TX12 k).2.2.1 = some (tyX12 k) := by decide +kernel
abbrev cX12_init : ByteArray := prog_14_method_1_code
def yX12_init : MethodName := ⟨RX12, "<init>", "()V"⟩
def RJ5 : String := "java/lang/AbstractStringBuilder"
abbrev cJ5_init_d00df : ByteArray := prog_15_method_2_code
def yJ5_init_d00df : MethodName := ⟨RJ5, "<init>", "(I)V"⟩
def RJ0 : String := "java/lang/String"
def TJ0 : u_T := fun k => match k with
  | 0 => ("java/lang/String", "value", "[B", true)
  | 1 => ("java/lang/String", "coder", "B", true)
  | 2 => ("java/lang/String", "hash", "I", false)
  | _ => ("java/lang/String", "hashIsZero", "Z", false)
def RJ4 : String := "java/lang/StringBuilder"
def TJ4 : u_T := fun k => match k with
  | 0 => ("java/lang/AbstractStringBuilder", "value", "[B", false)
  | 1 => ("java/lang/AbstractStringBuilder", "coder", "B", false)
  | 2 => ("java/lang/AbstractStringBuilder", "maybeLatin1", "Z", false)
  | _ => ("java/lang/AbstractStringBuilder", "count", "I", false)
def tyJ4 : Nat → FieldType := fun k => match k with
  | 0 => .array .byte
  | 1 => .byte
  | 2 => .boolean
  | _ => .int
abbrev wsJ40 : List Cond := u_ws RJ4 TJ4 4
theorem nmJ4 : ∀ a, a < 4 → ∀ b, b < 4 → a ≠ b → (TJ4 a).2.1 ≠ (TJ4 b).2.1 := by decide +kernel
theorem tyJ4_ok : ∀ k, k < 4 → parseFieldDescriptor (TJ4 k).2.2.1 = some (tyJ4 k) := by decide +kernel
abbrev cJ4_init_da8c8 : ByteArray := prog_24_method_1_code
def yJ4_init_da8c8 : MethodName := ⟨RJ4, "<init>", "()V"⟩
def RJ2 : String := "java/lang/StringUTF16"
abbrev cJ2_newBytesFor_77867 : ByteArray := prog_26_method_2_code
def yJ2_newBytesFor_77867 : MethodName := ⟨RJ2, "newBytesFor", "(I)[B"⟩
abbrev cJ2_newBytesLength_0f7a4 : ByteArray := prog_26_method_3_code
def yJ2_newBytesLength_0f7a4 : MethodName := ⟨RJ2, "newBytesLength", "(I)I"⟩
def wsJ5_init_d00df : List Cond := .code yJ5_init_d00df cJ5_init_d00df 2 none :: ([.methodLink RJ5 3 objectInit, .instanceMethod objectInit, .code objectInit ⟨#[0xb1]⟩ 1 none, .fieldLink RJ5 18 "java/lang/String" "COMPACT_STRINGS" "Z", .arrayClass .byte, .fieldLink RJ5 15 "java/lang/AbstractStringBuilder" "value" "[B", .fieldLink RJ5 22 "java/lang/AbstractStringBuilder" "coder" "B", .methodLink RJ5 26 yJ2_newBytesFor_77867, .static yJ2_newBytesFor_77867, .initialized RJ2, .code yJ2_newBytesFor_77867 cJ2_newBytesFor_77867 1 (some (.array .byte)), .methodLink RJ2 11 yJ2_newBytesLength_0f7a4, .static yJ2_newBytesLength_0f7a4, .code yJ2_newBytesLength_0f7a4 cJ2_newBytesLength_0f7a4 1 (some .int), .constant RJ2 20 (1073741823)] ++ wsJ40)
def wsJ4_init_da8c8 : List Cond := .code yJ4_init_da8c8 cJ4_init_da8c8 1 none :: ([.methodLink RJ4 1 yJ5_init_d00df, .instanceMethod yJ5_init_d00df, .initialized RJ5, .code yJ5_init_d00df cJ5_init_d00df 2 none, .methodLink RJ5 3 objectInit, .instanceMethod objectInit, .code objectInit ⟨#[0xb1]⟩ 1 none, .fieldLink RJ5 18 "java/lang/String" "COMPACT_STRINGS" "Z", .arrayClass .byte, .fieldLink RJ5 15 "java/lang/AbstractStringBuilder" "value" "[B", .fieldLink RJ5 22 "java/lang/AbstractStringBuilder" "coder" "B", .methodLink RJ5 26 yJ2_newBytesFor_77867, .static yJ2_newBytesFor_77867, .initialized RJ2, .code yJ2_newBytesFor_77867 cJ2_newBytesFor_77867 1 (some (.array .byte)), .methodLink RJ2 11 yJ2_newBytesLength_0f7a4, .static yJ2_newBytesLength_0f7a4, .code yJ2_newBytesLength_0f7a4 cJ2_newBytesLength_0f7a4 1 (some .int), .constant RJ2 20 (1073741823)] ++ wsJ40)
def wsX0_init_r1 : List Cond := [Cond.methodLink RX0 3 objectInit, Cond.instanceMethod objectInit, Cond.code objectInit ⟨#[0xb1]⟩ 1 none, Cond.arrayClass .boolean, Cond.fieldLink RX0 11 "PhraseDesk$Converters" "there" "[Z", Cond.classLink RX0 15 RJ4, Cond.instantiable RJ4 4, Cond.initialized RJ4, Cond.fieldLink RX0 18 "PhraseDesk$Converters" "scratch" "Ljava/lang/StringBuilder;", Cond.methodLink RX0 17 yJ4_init_da8c8, Cond.instanceMethod yJ4_init_da8c8, Cond.code yJ4_init_da8c8 cJ4_init_da8c8 1 none, Cond.methodLink RJ4 1 yJ5_init_d00df, Cond.instanceMethod yJ5_init_d00df, Cond.initialized RJ5, Cond.code yJ5_init_d00df cJ5_init_d00df 2 none, Cond.methodLink RJ5 3 objectInit, Cond.fieldLink RJ5 18 "java/lang/String" "COMPACT_STRINGS" "Z", Cond.arrayClass .byte, Cond.fieldLink RJ5 15 "java/lang/AbstractStringBuilder" "value" "[B", Cond.fieldLink RJ5 22 "java/lang/AbstractStringBuilder" "coder" "B", Cond.methodLink RJ5 26 yJ2_newBytesFor_77867, Cond.static yJ2_newBytesFor_77867, Cond.initialized RJ2]
def wsX0_init_r2 : List Cond := [Cond.code yJ2_newBytesFor_77867 cJ2_newBytesFor_77867 1 (some (.array .byte)), Cond.methodLink RJ2 11 yJ2_newBytesLength_0f7a4, Cond.static yJ2_newBytesLength_0f7a4, Cond.code yJ2_newBytesLength_0f7a4 cJ2_newBytesLength_0f7a4 1 (some .int), Cond.constant RJ2 20 (1073741823)]
def wsX0_init : List Cond := .code yX0_init cX0_init 1 none :: ((wsX0_init_r1 ++ wsX0_init_r2) ++ wsX00 ++ wsJ40)
def wsX10_init : List Cond := .code yX10_init cX10_init 7 none :: ([.methodLink RX10 3 objectInit, .instanceMethod objectInit, .code objectInit ⟨#[0xb1]⟩ 1 none, .fieldLink RX10 9 "PhraseDesk$Value" "kind" "I", .fieldLink RX10 15 "PhraseDesk$Value" "number" "I", .fieldLink RX10 18 "PhraseDesk$Value" "real" "D", .fieldLink RX10 22 "PhraseDesk$Value" "chars" "Ljava/lang/String;", .fieldLink RX10 26 "PhraseDesk$Value" "thing" "LPhraseDesk$Thing;"] ++ wsX100)
def wsX3_init : List Cond := .code yX3_init cX3_init 1 none :: ([.methodLink RX3 3 objectInit, .instanceMethod objectInit, .code objectInit ⟨#[0xb1]⟩ 1 none, .classLink RX3 9 RX7, .fieldLink RX3 11 "PhraseDesk$Finder" "candidates" "[LPhraseDesk$Routine;"] ++ wsX30)
def wsX4_init_r1 : List Cond := [Cond.methodLink RX4 3 objectInit, Cond.instanceMethod objectInit, Cond.code objectInit ⟨#[0xb1]⟩ 1 none, Cond.arrayClass .char, Cond.fieldLink RX4 9 "PhraseDesk$Lexer" "letters" "[C", Cond.arrayClass .int, Cond.fieldLink RX4 15 "PhraseDesk$Lexer" "kinds" "[I", Cond.fieldLink RX4 19 "PhraseDesk$Lexer" "places" "[I", Cond.fieldLink RX4 22 "PhraseDesk$Lexer" "names" "[I", Cond.classLink RX4 25 RX10, Cond.fieldLink RX4 27 "PhraseDesk$Lexer" "literals" "[LPhraseDesk$Value;", Cond.classLink RX4 31 RJ4, Cond.instantiable RJ4 4, Cond.initialized RJ4, Cond.fieldLink RX4 34 "PhraseDesk$Lexer" "scratch" "Ljava/lang/StringBuilder;", Cond.methodLink RX4 33 yJ4_init_da8c8, Cond.instanceMethod yJ4_init_da8c8, Cond.code yJ4_init_da8c8 cJ4_init_da8c8 1 none, Cond.methodLink RJ4 1 yJ5_init_d00df, Cond.instanceMethod yJ5_init_d00df, Cond.initialized RJ5, Cond.code yJ5_init_d00df cJ5_init_d00df 2 none, Cond.methodLink RJ5 3 objectInit, Cond.fieldLink RJ5 18 "java/lang/String" "COMPACT_STRINGS" "Z"]
def wsX4_init_r2 : List Cond := [Cond.arrayClass .byte, Cond.fieldLink RJ5 15 "java/lang/AbstractStringBuilder" "value" "[B", Cond.fieldLink RJ5 22 "java/lang/AbstractStringBuilder" "coder" "B", Cond.methodLink RJ5 26 yJ2_newBytesFor_77867, Cond.static yJ2_newBytesFor_77867, Cond.initialized RJ2, Cond.code yJ2_newBytesFor_77867 cJ2_newBytesFor_77867 1 (some (.array .byte)), Cond.methodLink RJ2 11 yJ2_newBytesLength_0f7a4, Cond.static yJ2_newBytesLength_0f7a4, Cond.code yJ2_newBytesLength_0f7a4 cJ2_newBytesLength_0f7a4 1 (some .int), Cond.constant RJ2 20 (1073741823)]
def wsX4_init : List Cond := .code yX4_init cX4_init 1 none :: ((wsX4_init_r1 ++ wsX4_init_r2) ++ wsX40 ++ wsJ40)
def wsX6_init_r1 : List Cond := [Cond.methodLink RX6 3 objectInit, Cond.instanceMethod objectInit, Cond.code objectInit ⟨#[0xb1]⟩ 1 none, Cond.classLink RX6 9 RX4, Cond.instantiable RX4 8, Cond.initialized RX4, Cond.fieldLink RX6 12 "PhraseDesk$Parser" "lexer" "LPhraseDesk$Lexer;", Cond.methodLink RX6 11 yX4_init, Cond.instanceMethod yX4_init, Cond.code yX4_init cX4_init 1 none, Cond.methodLink RX4 3 objectInit, Cond.arrayClass .char, Cond.fieldLink RX4 9 "PhraseDesk$Lexer" "letters" "[C", Cond.arrayClass .int, Cond.fieldLink RX4 15 "PhraseDesk$Lexer" "kinds" "[I", Cond.fieldLink RX4 19 "PhraseDesk$Lexer" "places" "[I", Cond.fieldLink RX4 22 "PhraseDesk$Lexer" "names" "[I", Cond.classLink RX4 25 RX10, Cond.fieldLink RX4 27 "PhraseDesk$Lexer" "literals" "[LPhraseDesk$Value;", Cond.classLink RX4 31 RJ4, Cond.instantiable RJ4 4, Cond.initialized RJ4, Cond.fieldLink RX4 34 "PhraseDesk$Lexer" "scratch" "Ljava/lang/StringBuilder;", Cond.methodLink RX4 33 yJ4_init_da8c8]
def wsX6_init_r2 : List Cond := [Cond.instanceMethod yJ4_init_da8c8, Cond.code yJ4_init_da8c8 cJ4_init_da8c8 1 none, Cond.methodLink RJ4 1 yJ5_init_d00df, Cond.instanceMethod yJ5_init_d00df, Cond.initialized RJ5, Cond.code yJ5_init_d00df cJ5_init_d00df 2 none, Cond.methodLink RJ5 3 objectInit, Cond.fieldLink RJ5 18 "java/lang/String" "COMPACT_STRINGS" "Z", Cond.arrayClass .byte, Cond.fieldLink RJ5 15 "java/lang/AbstractStringBuilder" "value" "[B", Cond.fieldLink RJ5 22 "java/lang/AbstractStringBuilder" "coder" "B", Cond.methodLink RJ5 26 yJ2_newBytesFor_77867, Cond.static yJ2_newBytesFor_77867, Cond.initialized RJ2, Cond.code yJ2_newBytesFor_77867 cJ2_newBytesFor_77867 1 (some (.array .byte)), Cond.methodLink RJ2 11 yJ2_newBytesLength_0f7a4, Cond.static yJ2_newBytesLength_0f7a4, Cond.code yJ2_newBytesLength_0f7a4 cJ2_newBytesLength_0f7a4 1 (some .int), Cond.constant RJ2 20 (1073741823)]
def wsX6_init : List Cond := .code yX6_init cX6_init 1 none :: ((wsX6_init_r1 ++ wsX6_init_r2) ++ wsX40 ++ wsX60 ++ wsJ40)
def wsX10_ofNull : List Cond := .code yX10_ofNull cX10_ofNull 0 (some (.object "PhraseDesk$Value")) :: ([.classLink RX10 10 RX10, .instantiable RX10 5, .initialized RX10, .methodLink RX10 32 yX10_init, .instanceMethod yX10_init, .code yX10_init cX10_init 7 none, .methodLink RX10 3 objectInit, .instanceMethod objectInit, .code objectInit ⟨#[0xb1]⟩ 1 none, .fieldLink RX10 9 "PhraseDesk$Value" "kind" "I", .fieldLink RX10 15 "PhraseDesk$Value" "number" "I", .fieldLink RX10 18 "PhraseDesk$Value" "real" "D", .fieldLink RX10 22 "PhraseDesk$Value" "chars" "Ljava/lang/String;", .fieldLink RX10 26 "PhraseDesk$Value" "thing" "LPhraseDesk$Thing;"] ++ wsX100)
def wsX8_init_r1 : List Cond := [Cond.methodLink RX8 3 objectInit, Cond.instanceMethod objectInit, Cond.code objectInit ⟨#[0xb1]⟩ 1 none, Cond.fieldLink RX8 15 "PhraseDesk$Runner" "nothing" "LPhraseDesk$Value;", Cond.classLink RX8 21 RX0, Cond.instantiable RX0 2, Cond.initialized RX0, Cond.fieldLink RX8 24 "PhraseDesk$Runner" "converters" "LPhraseDesk$Converters;", Cond.classLink RX8 28 RX3, Cond.instantiable RX3 3, Cond.initialized RX3, Cond.fieldLink RX8 31 "PhraseDesk$Runner" "finder" "LPhraseDesk$Finder;", Cond.arrayClass .int, Cond.fieldLink RX8 35 "PhraseDesk$Runner" "variableNames" "[I", Cond.classLink RX8 10 RX10, Cond.fieldLink RX8 39 "PhraseDesk$Runner" "variableValues" "[LPhraseDesk$Value;", Cond.fieldLink RX8 43 "PhraseDesk$Runner" "root" "LPhraseDesk$Value;", Cond.methodLink RX8 9 yX10_ofNull, Cond.static yX10_ofNull, Cond.initialized RX10, Cond.code yX10_ofNull cX10_ofNull 0 (some (.object "PhraseDesk$Value")), Cond.classLink RX10 10 RX10, Cond.instantiable RX10 5, Cond.methodLink RX10 32 yX10_init]
def wsX8_init_r2 : List Cond := [Cond.instanceMethod yX10_init, Cond.code yX10_init cX10_init 7 none, Cond.methodLink RX10 3 objectInit, Cond.fieldLink RX10 9 "PhraseDesk$Value" "kind" "I", Cond.fieldLink RX10 15 "PhraseDesk$Value" "number" "I", Cond.fieldLink RX10 18 "PhraseDesk$Value" "real" "D", Cond.fieldLink RX10 22 "PhraseDesk$Value" "chars" "Ljava/lang/String;", Cond.fieldLink RX10 26 "PhraseDesk$Value" "thing" "LPhraseDesk$Thing;", Cond.methodLink RX8 23 yX0_init, Cond.instanceMethod yX0_init, Cond.code yX0_init cX0_init 1 none, Cond.methodLink RX0 3 objectInit, Cond.arrayClass .boolean, Cond.fieldLink RX0 11 "PhraseDesk$Converters" "there" "[Z", Cond.classLink RX0 15 RJ4, Cond.instantiable RJ4 4, Cond.initialized RJ4, Cond.fieldLink RX0 18 "PhraseDesk$Converters" "scratch" "Ljava/lang/StringBuilder;", Cond.methodLink RX0 17 yJ4_init_da8c8, Cond.instanceMethod yJ4_init_da8c8, Cond.code yJ4_init_da8c8 cJ4_init_da8c8 1 none, Cond.methodLink RJ4 1 yJ5_init_d00df, Cond.instanceMethod yJ5_init_d00df, Cond.initialized RJ5]
def wsX8_init_r3 : List Cond := [Cond.code yJ5_init_d00df cJ5_init_d00df 2 none, Cond.methodLink RJ5 3 objectInit, Cond.fieldLink RJ5 18 "java/lang/String" "COMPACT_STRINGS" "Z", Cond.arrayClass .byte, Cond.fieldLink RJ5 15 "java/lang/AbstractStringBuilder" "value" "[B", Cond.fieldLink RJ5 22 "java/lang/AbstractStringBuilder" "coder" "B", Cond.methodLink RJ5 26 yJ2_newBytesFor_77867, Cond.static yJ2_newBytesFor_77867, Cond.initialized RJ2, Cond.code yJ2_newBytesFor_77867 cJ2_newBytesFor_77867 1 (some (.array .byte)), Cond.methodLink RJ2 11 yJ2_newBytesLength_0f7a4, Cond.static yJ2_newBytesLength_0f7a4, Cond.code yJ2_newBytesLength_0f7a4 cJ2_newBytesLength_0f7a4 1 (some .int), Cond.constant RJ2 20 (1073741823), Cond.methodLink RX8 30 yX3_init, Cond.instanceMethod yX3_init, Cond.code yX3_init cX3_init 1 none, Cond.methodLink RX3 3 objectInit, Cond.classLink RX3 9 RX7, Cond.fieldLink RX3 11 "PhraseDesk$Finder" "candidates" "[LPhraseDesk$Routine;"]
def wsX8_init : List Cond := .code yX8_init cX8_init 1 none :: ((wsX8_init_r1 ++ (wsX8_init_r2 ++ wsX8_init_r3)) ++ wsX80 ++ wsX00 ++ wsX30 ++ wsX100 ++ wsJ40)
def wsX11_init_r1 : List Cond := [Cond.methodLink RX11 1 objectInit, Cond.instanceMethod objectInit, Cond.code objectInit ⟨#[0xb1]⟩ 1 none, Cond.classLink RX11 7 RX6, Cond.instantiable RX6 4, Cond.initialized RX6, Cond.fieldLink RX11 10 "PhraseDesk" "parser" "LPhraseDesk$Parser;", Cond.classLink RX11 16 RX8, Cond.instantiable RX8 8, Cond.initialized RX8, Cond.fieldLink RX11 19 "PhraseDesk" "runner" "LPhraseDesk$Runner;", Cond.classLink RX11 23 RX5, Cond.fieldLink RX11 25 "PhraseDesk" "programs" "[LPhraseDesk$Node;", Cond.classLink RX11 29 RX1, Cond.fieldLink RX11 31 "PhraseDesk" "families" "[LPhraseDesk$Family;", Cond.classLink RX11 35 RX10, Cond.fieldLink RX11 37 "PhraseDesk" "objects" "[LPhraseDesk$Value;", Cond.fieldLink RX11 45 "PhraseDesk" "latest" "LPhraseDesk$Value;", Cond.methodLink RX11 9 yX6_init, Cond.instanceMethod yX6_init, Cond.code yX6_init cX6_init 1 none, Cond.methodLink RX6 3 objectInit, Cond.classLink RX6 9 RX4, Cond.instantiable RX4 8]
def wsX11_init_r2 : List Cond := [Cond.initialized RX4, Cond.fieldLink RX6 12 "PhraseDesk$Parser" "lexer" "LPhraseDesk$Lexer;", Cond.methodLink RX6 11 yX4_init, Cond.instanceMethod yX4_init, Cond.code yX4_init cX4_init 1 none, Cond.methodLink RX4 3 objectInit, Cond.arrayClass .char, Cond.fieldLink RX4 9 "PhraseDesk$Lexer" "letters" "[C", Cond.arrayClass .int, Cond.fieldLink RX4 15 "PhraseDesk$Lexer" "kinds" "[I", Cond.fieldLink RX4 19 "PhraseDesk$Lexer" "places" "[I", Cond.fieldLink RX4 22 "PhraseDesk$Lexer" "names" "[I", Cond.classLink RX4 25 RX10, Cond.fieldLink RX4 27 "PhraseDesk$Lexer" "literals" "[LPhraseDesk$Value;", Cond.classLink RX4 31 RJ4, Cond.instantiable RJ4 4, Cond.initialized RJ4, Cond.fieldLink RX4 34 "PhraseDesk$Lexer" "scratch" "Ljava/lang/StringBuilder;", Cond.methodLink RX4 33 yJ4_init_da8c8, Cond.instanceMethod yJ4_init_da8c8, Cond.code yJ4_init_da8c8 cJ4_init_da8c8 1 none, Cond.methodLink RJ4 1 yJ5_init_d00df, Cond.instanceMethod yJ5_init_d00df, Cond.initialized RJ5]
def wsX11_init_r3 : List Cond := [Cond.code yJ5_init_d00df cJ5_init_d00df 2 none, Cond.methodLink RJ5 3 objectInit, Cond.fieldLink RJ5 18 "java/lang/String" "COMPACT_STRINGS" "Z", Cond.arrayClass .byte, Cond.fieldLink RJ5 15 "java/lang/AbstractStringBuilder" "value" "[B", Cond.fieldLink RJ5 22 "java/lang/AbstractStringBuilder" "coder" "B", Cond.methodLink RJ5 26 yJ2_newBytesFor_77867, Cond.static yJ2_newBytesFor_77867, Cond.initialized RJ2, Cond.code yJ2_newBytesFor_77867 cJ2_newBytesFor_77867 1 (some (.array .byte)), Cond.methodLink RJ2 11 yJ2_newBytesLength_0f7a4, Cond.static yJ2_newBytesLength_0f7a4, Cond.code yJ2_newBytesLength_0f7a4 cJ2_newBytesLength_0f7a4 1 (some .int), Cond.constant RJ2 20 (1073741823), Cond.methodLink RX11 18 yX8_init, Cond.instanceMethod yX8_init, Cond.code yX8_init cX8_init 1 none, Cond.methodLink RX8 3 objectInit, Cond.fieldLink RX8 15 "PhraseDesk$Runner" "nothing" "LPhraseDesk$Value;", Cond.classLink RX8 21 RX0, Cond.instantiable RX0 2, Cond.initialized RX0, Cond.fieldLink RX8 24 "PhraseDesk$Runner" "converters" "LPhraseDesk$Converters;", Cond.classLink RX8 28 RX3]
def wsX11_init_r4 : List Cond := [Cond.instantiable RX3 3, Cond.initialized RX3, Cond.fieldLink RX8 31 "PhraseDesk$Runner" "finder" "LPhraseDesk$Finder;", Cond.fieldLink RX8 35 "PhraseDesk$Runner" "variableNames" "[I", Cond.classLink RX8 10 RX10, Cond.fieldLink RX8 39 "PhraseDesk$Runner" "variableValues" "[LPhraseDesk$Value;", Cond.fieldLink RX8 43 "PhraseDesk$Runner" "root" "LPhraseDesk$Value;", Cond.methodLink RX8 9 yX10_ofNull, Cond.static yX10_ofNull, Cond.initialized RX10, Cond.code yX10_ofNull cX10_ofNull 0 (some (.object "PhraseDesk$Value")), Cond.classLink RX10 10 RX10, Cond.instantiable RX10 5, Cond.methodLink RX10 32 yX10_init, Cond.instanceMethod yX10_init, Cond.code yX10_init cX10_init 7 none, Cond.methodLink RX10 3 objectInit, Cond.fieldLink RX10 9 "PhraseDesk$Value" "kind" "I", Cond.fieldLink RX10 15 "PhraseDesk$Value" "number" "I", Cond.fieldLink RX10 18 "PhraseDesk$Value" "real" "D", Cond.fieldLink RX10 22 "PhraseDesk$Value" "chars" "Ljava/lang/String;", Cond.fieldLink RX10 26 "PhraseDesk$Value" "thing" "LPhraseDesk$Thing;", Cond.methodLink RX8 23 yX0_init, Cond.instanceMethod yX0_init]
def wsX11_init_r5 : List Cond := [Cond.code yX0_init cX0_init 1 none, Cond.methodLink RX0 3 objectInit, Cond.arrayClass .boolean, Cond.fieldLink RX0 11 "PhraseDesk$Converters" "there" "[Z", Cond.classLink RX0 15 RJ4, Cond.fieldLink RX0 18 "PhraseDesk$Converters" "scratch" "Ljava/lang/StringBuilder;", Cond.methodLink RX0 17 yJ4_init_da8c8, Cond.methodLink RX8 30 yX3_init, Cond.instanceMethod yX3_init, Cond.code yX3_init cX3_init 1 none, Cond.methodLink RX3 3 objectInit, Cond.classLink RX3 9 RX7, Cond.fieldLink RX3 11 "PhraseDesk$Finder" "candidates" "[LPhraseDesk$Routine;", Cond.methodLink RX11 41 yX10_ofNull]
def wsX11_init : List Cond := .code yX11_init cX11_init 1 none :: ((wsX11_init_r1 ++ (wsX11_init_r2 ++ (wsX11_init_r3 ++ (wsX11_init_r4 ++ wsX11_init_r5)))) ++ wsX60 ++ wsX110 ++ wsX80 ++ wsX40 ++ wsJ40 ++ wsX00 ++ wsX30 ++ wsX100)
def wsX12_init_r1 : List Cond := [Cond.methodLink RX12 1 objectInit, Cond.instanceMethod objectInit, Cond.code objectInit ⟨#[0xb1]⟩ 1 none, Cond.arrayClass .int, Cond.fieldLink RX12 7 "PhraseDeskModel" "letters" "[I", Cond.fieldLink RX12 13 "PhraseDeskModel" "tokenKind" "[I", Cond.fieldLink RX12 16 "PhraseDeskModel" "tokenAt" "[I", Cond.arrayClass .long, Cond.fieldLink RX12 19 "PhraseDeskModel" "token" "[J", Cond.fieldLink RX12 23 "PhraseDeskModel" "scale" "[I", Cond.fieldLink RX12 26 "PhraseDeskModel" "step" "[I", Cond.fieldLink RX12 29 "PhraseDeskModel" "with" "[J", Cond.fieldLink RX12 32 "PhraseDeskModel" "lengths" "[I", Cond.fieldLink RX12 35 "PhraseDeskModel" "frame" "[I", Cond.fieldLink RX12 38 "PhraseDeskModel" "base" "[I", Cond.fieldLink RX12 41 "PhraseDeskModel" "sign" "[I", Cond.fieldLink RX12 44 "PhraseDeskModel" "patch" "[I", Cond.fieldLink RX12 47 "PhraseDeskModel" "callName" "[I", Cond.fieldLink RX12 50 "PhraseDeskModel" "callCount" "[I", Cond.arrayClass .boolean, Cond.fieldLink RX12 53 "PhraseDeskModel" "closed" "[Z", Cond.fieldLink RX12 57 "PhraseDeskModel" "plain" "[Z", Cond.fieldLink RX12 60 "PhraseDeskModel" "aims" "[Z", Cond.fieldLink RX12 63 "PhraseDeskModel" "operation" "[I"]
def wsX12_init_r2 : List Cond := [Cond.fieldLink RX12 66 "PhraseDeskModel" "level" "[I", Cond.fieldLink RX12 69 "PhraseDeskModel" "jump" "[I", Cond.fieldLink RX12 72 "PhraseDeskModel" "parent" "[I", Cond.fieldLink RX12 75 "PhraseDeskModel" "fields" "[I", Cond.fieldLink RX12 78 "PhraseDeskModel" "fieldName" "[I", Cond.fieldLink RX12 81 "PhraseDeskModel" "fieldType" "[I", Cond.fieldLink RX12 84 "PhraseDeskModel" "methods" "[I", Cond.fieldLink RX12 87 "PhraseDeskModel" "methodName" "[I", Cond.fieldLink RX12 90 "PhraseDeskModel" "one" "[I", Cond.fieldLink RX12 93 "PhraseDeskModel" "two" "[I", Cond.fieldLink RX12 96 "PhraseDeskModel" "action" "[I", Cond.fieldLink RX12 99 "PhraseDeskModel" "methodNumber" "[I", Cond.fieldLink RX12 102 "PhraseDeskModel" "converts" "[Z", Cond.fieldLink RX12 105 "PhraseDeskModel" "classOf" "[I", Cond.fieldLink RX12 108 "PhraseDeskModel" "variable" "[I", Cond.fieldLink RX12 111 "PhraseDeskModel" "kind" "[I", Cond.fieldLink RX12 114 "PhraseDeskModel" "a" "[J", Cond.fieldLink RX12 117 "PhraseDeskModel" "b" "[J", Cond.arrayClass .double, Cond.fieldLink RX12 120 "PhraseDeskModel" "real" "[D", Cond.fieldLink RX12 124 "PhraseDeskModel" "built" "[I"]
def wsX12_init : List Cond := .code yX12_init cX12_init 1 none :: ((wsX12_init_r1 ++ wsX12_init_r2) ++ wsX120)
set_option maxRecDepth 20000 in
theorem ggX0_init_J4_init_da8c8 : GoodIn wsX0_init wsJ4_init_da8c8 := goodIn_r _ [12, 13, 14, 15, 16, 17, 2, 3, 18, 19, 20, 21, 22, 23, 24, 25, 26, 27, 28, 29, 32, 33, 34, 35] (by decide +kernel) (by decide +kernel)
set_option maxRecDepth 20000 in
theorem gX0_init_J4_init_da8c8 : GoodIn wsX0_init (wsJ4_init_da8c8) := ggX0_init_J4_init_da8c8
theorem dX0_init_0 : decode cX0_init 0 = .ok (.aload_n 0, 1) := by decide +kernel
theorem dX0_init_1 : decode cX0_init 1 = .ok (.invokespecial 3, 3) := by decide +kernel
theorem dX0_init_4 : decode cX0_init 4 = .ok (.aload_n 0, 1) := by decide +kernel
theorem dX0_init_5 : decode cX0_init 5 = .ok (.bipush 65, 2) := by decide +kernel
theorem dX0_init_7 : decode cX0_init 7 = .ok (.newarray .boolean, 2) := by decide +kernel
theorem dX0_init_9 : decode cX0_init 9 = .ok (.putfield 11, 3) := by decide +kernel
theorem dX0_init_12 : decode cX0_init 12 = .ok (.aload_n 0, 1) := by decide +kernel
theorem dX0_init_13 : decode cX0_init 13 = .ok (.new 15, 3) := by decide +kernel
theorem dX0_init_16 : decode cX0_init 16 = .ok (.dup, 1) := by decide +kernel
theorem dX0_init_17 : decode cX0_init 17 = .ok (.invokespecial 17, 3) := by decide +kernel
theorem dX0_init_20 : decode cX0_init 20 = .ok (.putfield 18, 3) := by decide +kernel
theorem dX0_init_23 : decode cX0_init 23 = .ok (.return_, 1) := by decide +kernel
theorem dX3_init_0 : decode cX3_init 0 = .ok (.aload_n 0, 1) := by decide +kernel
theorem dX3_init_1 : decode cX3_init 1 = .ok (.invokespecial 3, 3) := by decide +kernel
theorem dX3_init_4 : decode cX3_init 4 = .ok (.aload_n 0, 1) := by decide +kernel
theorem dX3_init_5 : decode cX3_init 5 = .ok (.bipush 30, 2) := by decide +kernel
theorem dX3_init_7 : decode cX3_init 7 = .ok (.anewarray 9, 3) := by decide +kernel
theorem dX3_init_10 : decode cX3_init 10 = .ok (.putfield 11, 3) := by decide +kernel
theorem dX3_init_13 : decode cX3_init 13 = .ok (.return_, 1) := by decide +kernel
set_option maxRecDepth 20000 in
theorem ggX4_init_J4_init_da8c8 : GoodIn wsX4_init wsJ4_init_da8c8 := goodIn_r _ [18, 19, 20, 21, 22, 23, 2, 3, 24, 25, 26, 27, 28, 29, 30, 31, 32, 33, 34, 35, 44, 45, 46, 47] (by decide +kernel) (by decide +kernel)
set_option maxRecDepth 20000 in
theorem gX4_init_J4_init_da8c8 : GoodIn wsX4_init (wsJ4_init_da8c8) := ggX4_init_J4_init_da8c8
theorem dX4_init_0 : decode cX4_init 0 = .ok (.aload_n 0, 1) := by decide +kernel
theorem dX4_init_1 : decode cX4_init 1 = .ok (.invokespecial 3, 3) := by decide +kernel
theorem dX4_init_4 : decode cX4_init 4 = .ok (.aload_n 0, 1) := by decide +kernel
theorem dX4_init_5 : decode cX4_init 5 = .ok (.bipush 40, 2) := by decide +kernel
theorem dX4_init_7 : decode cX4_init 7 = .ok (.newarray .char, 2) := by decide +kernel
theorem dX4_init_9 : decode cX4_init 9 = .ok (.putfield 9, 3) := by decide +kernel
theorem dX4_init_12 : decode cX4_init 12 = .ok (.aload_n 0, 1) := by decide +kernel
theorem dX4_init_13 : decode cX4_init 13 = .ok (.bipush 41, 2) := by decide +kernel
theorem dX4_init_15 : decode cX4_init 15 = .ok (.newarray .int, 2) := by decide +kernel
theorem dX4_init_17 : decode cX4_init 17 = .ok (.putfield 15, 3) := by decide +kernel
theorem dX4_init_20 : decode cX4_init 20 = .ok (.aload_n 0, 1) := by decide +kernel
theorem dX4_init_21 : decode cX4_init 21 = .ok (.bipush 41, 2) := by decide +kernel
theorem dX4_init_23 : decode cX4_init 23 = .ok (.newarray .int, 2) := by decide +kernel
theorem dX4_init_25 : decode cX4_init 25 = .ok (.putfield 19, 3) := by decide +kernel
theorem dX4_init_28 : decode cX4_init 28 = .ok (.aload_n 0, 1) := by decide +kernel
theorem dX4_init_29 : decode cX4_init 29 = .ok (.bipush 41, 2) := by decide +kernel
theorem dX4_init_31 : decode cX4_init 31 = .ok (.newarray .int, 2) := by decide +kernel
theorem dX4_init_33 : decode cX4_init 33 = .ok (.putfield 22, 3) := by decide +kernel
theorem dX4_init_36 : decode cX4_init 36 = .ok (.aload_n 0, 1) := by decide +kernel
theorem dX4_init_37 : decode cX4_init 37 = .ok (.bipush 41, 2) := by decide +kernel
theorem dX4_init_39 : decode cX4_init 39 = .ok (.anewarray 25, 3) := by decide +kernel
theorem dX4_init_42 : decode cX4_init 42 = .ok (.putfield 27, 3) := by decide +kernel
theorem dX4_init_45 : decode cX4_init 45 = .ok (.aload_n 0, 1) := by decide +kernel
theorem dX4_init_46 : decode cX4_init 46 = .ok (.new 31, 3) := by decide +kernel
theorem dX4_init_49 : decode cX4_init 49 = .ok (.dup, 1) := by decide +kernel
theorem dX4_init_50 : decode cX4_init 50 = .ok (.invokespecial 33, 3) := by decide +kernel
theorem dX4_init_53 : decode cX4_init 53 = .ok (.putfield 34, 3) := by decide +kernel
theorem dX4_init_56 : decode cX4_init 56 = .ok (.return_, 1) := by decide +kernel
set_option maxRecDepth 20000 in
theorem ggX6_init_X4_init : GoodIn wsX6_init wsX4_init := goodIn_r _ [10, 11, 2, 3, 12, 13, 14, 15, 16, 17, 18, 19, 20, 21, 22, 23, 24, 25, 26, 27, 28, 29, 30, 31, 32, 33, 34, 35, 36, 37, 38, 39, 40, 41, 42, 43, 44, 45, 46, 47, 48, 49, 50, 51, 56, 57, 58, 59] (by decide +kernel) (by decide +kernel)
set_option maxRecDepth 20000 in
theorem gX6_init_X4_init : GoodIn wsX6_init (wsX4_init) := ggX6_init_X4_init
theorem dX6_init_0 : decode cX6_init 0 = .ok (.aload_n 0, 1) := by decide +kernel
theorem dX6_init_1 : decode cX6_init 1 = .ok (.invokespecial 3, 3) := by decide +kernel
theorem dX6_init_4 : decode cX6_init 4 = .ok (.aload_n 0, 1) := by decide +kernel
theorem dX6_init_5 : decode cX6_init 5 = .ok (.new 9, 3) := by decide +kernel
theorem dX6_init_8 : decode cX6_init 8 = .ok (.dup, 1) := by decide +kernel
theorem dX6_init_9 : decode cX6_init 9 = .ok (.invokespecial 11, 3) := by decide +kernel
theorem dX6_init_12 : decode cX6_init 12 = .ok (.putfield 12, 3) := by decide +kernel
theorem dX6_init_15 : decode cX6_init 15 = .ok (.return_, 1) := by decide +kernel
set_option maxRecDepth 20000 in
theorem ggX8_init_X10_ofNull : GoodIn wsX8_init wsX10_ofNull := goodIn_r _ [21, 22, 23, 20, 24, 25, 26, 27, 2, 3, 28, 29, 30, 31, 32, 82, 83, 84, 85, 86] (by decide +kernel) (by decide +kernel)
set_option maxRecDepth 20000 in
theorem gX8_init_X10_ofNull : GoodIn wsX8_init (va_wsS RX8 9 yX10_ofNull wsX10_ofNull) := goodIn_app (goodIn_of _ (by decide +kernel)) ggX8_init_X10_ofNull
set_option maxRecDepth 20000 in
theorem ggX8_init_X0_init : GoodIn wsX8_init wsX0_init := goodIn_r _ [35, 36, 2, 3, 37, 38, 39, 40, 41, 42, 43, 44, 45, 46, 47, 48, 49, 50, 51, 52, 53, 54, 55, 56, 57, 58, 59, 60, 61, 62, 77, 78, 87, 88, 89, 90] (by decide +kernel) (by decide +kernel)
set_option maxRecDepth 20000 in
theorem gX8_init_X0_init : GoodIn wsX8_init (wsX0_init) := ggX8_init_X0_init
set_option maxRecDepth 20000 in
theorem ggX8_init_X3_init : GoodIn wsX8_init wsX3_init := goodIn_r _ [65, 66, 2, 3, 67, 68, 79, 80, 81] (by decide +kernel) (by decide +kernel)
set_option maxRecDepth 20000 in
theorem gX8_init_X3_init : GoodIn wsX8_init (wsX3_init) := ggX8_init_X3_init
theorem dX8_init_0 : decode cX8_init 0 = .ok (.aload_n 0, 1) := by decide +kernel
theorem dX8_init_1 : decode cX8_init 1 = .ok (.invokespecial 3, 3) := by decide +kernel
theorem dX8_init_4 : decode cX8_init 4 = .ok (.aload_n 0, 1) := by decide +kernel
theorem dX8_init_5 : decode cX8_init 5 = .ok (.invokestatic 9, 3) := by decide +kernel
theorem dX8_init_8 : decode cX8_init 8 = .ok (.putfield 15, 3) := by decide +kernel
theorem dX8_init_11 : decode cX8_init 11 = .ok (.aload_n 0, 1) := by decide +kernel
theorem dX8_init_12 : decode cX8_init 12 = .ok (.new 21, 3) := by decide +kernel
theorem dX8_init_15 : decode cX8_init 15 = .ok (.dup, 1) := by decide +kernel
theorem dX8_init_16 : decode cX8_init 16 = .ok (.invokespecial 23, 3) := by decide +kernel
theorem dX8_init_19 : decode cX8_init 19 = .ok (.putfield 24, 3) := by decide +kernel
theorem dX8_init_22 : decode cX8_init 22 = .ok (.aload_n 0, 1) := by decide +kernel
theorem dX8_init_23 : decode cX8_init 23 = .ok (.new 28, 3) := by decide +kernel
theorem dX8_init_26 : decode cX8_init 26 = .ok (.dup, 1) := by decide +kernel
theorem dX8_init_27 : decode cX8_init 27 = .ok (.invokespecial 30, 3) := by decide +kernel
theorem dX8_init_30 : decode cX8_init 30 = .ok (.putfield 31, 3) := by decide +kernel
theorem dX8_init_33 : decode cX8_init 33 = .ok (.aload_n 0, 1) := by decide +kernel
theorem dX8_init_34 : decode cX8_init 34 = .ok (.bipush 12, 2) := by decide +kernel
theorem dX8_init_36 : decode cX8_init 36 = .ok (.newarray .int, 2) := by decide +kernel
theorem dX8_init_38 : decode cX8_init 38 = .ok (.putfield 35, 3) := by decide +kernel
theorem dX8_init_41 : decode cX8_init 41 = .ok (.aload_n 0, 1) := by decide +kernel
theorem dX8_init_42 : decode cX8_init 42 = .ok (.bipush 12, 2) := by decide +kernel
theorem dX8_init_44 : decode cX8_init 44 = .ok (.anewarray 10, 3) := by decide +kernel
theorem dX8_init_47 : decode cX8_init 47 = .ok (.putfield 39, 3) := by decide +kernel
theorem dX8_init_50 : decode cX8_init 50 = .ok (.aload_n 0, 1) := by decide +kernel
theorem dX8_init_51 : decode cX8_init 51 = .ok (.aload_n 0, 1) := by decide +kernel
theorem dX8_init_52 : decode cX8_init 52 = .ok (.getfield 15, 3) := by decide +kernel
theorem dX8_init_55 : decode cX8_init 55 = .ok (.putfield 43, 3) := by decide +kernel
theorem dX8_init_58 : decode cX8_init 58 = .ok (.return_, 1) := by decide +kernel
theorem dX10_init_0 : decode cX10_init 0 = .ok (.aload_n 0, 1) := by decide +kernel
theorem dX10_init_1 : decode cX10_init 1 = .ok (.invokespecial 3, 3) := by decide +kernel
theorem dX10_init_4 : decode cX10_init 4 = .ok (.aload_n 0, 1) := by decide +kernel
theorem dX10_init_5 : decode cX10_init 5 = .ok (.iload_n 1, 1) := by decide +kernel
theorem dX10_init_6 : decode cX10_init 6 = .ok (.putfield 9, 3) := by decide +kernel
theorem dX10_init_9 : decode cX10_init 9 = .ok (.aload_n 0, 1) := by decide +kernel
theorem dX10_init_10 : decode cX10_init 10 = .ok (.iload_n 2, 1) := by decide +kernel
theorem dX10_init_11 : decode cX10_init 11 = .ok (.putfield 15, 3) := by decide +kernel
theorem dX10_init_14 : decode cX10_init 14 = .ok (.aload_n 0, 1) := by decide +kernel
theorem dX10_init_15 : decode cX10_init 15 = .ok (.dload_n 3, 1) := by decide +kernel
theorem dX10_init_16 : decode cX10_init 16 = .ok (.putfield 18, 3) := by decide +kernel
theorem dX10_init_19 : decode cX10_init 19 = .ok (.aload_n 0, 1) := by decide +kernel
theorem dX10_init_20 : decode cX10_init 20 = .ok (.aload 5, 2) := by decide +kernel
theorem dX10_init_22 : decode cX10_init 22 = .ok (.putfield 22, 3) := by decide +kernel
theorem dX10_init_25 : decode cX10_init 25 = .ok (.aload_n 0, 1) := by decide +kernel
theorem dX10_init_26 : decode cX10_init 26 = .ok (.aload 6, 2) := by decide +kernel
theorem dX10_init_28 : decode cX10_init 28 = .ok (.putfield 26, 3) := by decide +kernel
theorem dX10_init_31 : decode cX10_init 31 = .ok (.return_, 1) := by decide +kernel
set_option maxRecDepth 20000 in
theorem ggX10_ofNull_X10_init : GoodIn wsX10_ofNull wsX10_init := goodIn_r _ [6, 7, 8, 9, 10, 11, 12, 13, 14, 15, 16, 17, 18, 19] (by decide +kernel) (by decide +kernel)
set_option maxRecDepth 20000 in
theorem gX10_ofNull_X10_init : GoodIn wsX10_ofNull (wsX10_init) := ggX10_ofNull_X10_init
theorem dX10_ofNull_0 : decode cX10_ofNull 0 = .ok (.new 10, 3) := by decide +kernel
theorem dX10_ofNull_3 : decode cX10_ofNull 3 = .ok (.dup, 1) := by decide +kernel
theorem dX10_ofNull_4 : decode cX10_ofNull 4 = .ok (.iconst 0, 1) := by decide +kernel
theorem dX10_ofNull_5 : decode cX10_ofNull 5 = .ok (.iconst 0, 1) := by decide +kernel
theorem dX10_ofNull_6 : decode cX10_ofNull 6 = .ok (.dconst 0, 1) := by decide +kernel
theorem dX10_ofNull_7 : decode cX10_ofNull 7 = .ok (.ldc 30, 2) := by decide +kernel
theorem dX10_ofNull_9 : decode cX10_ofNull 9 = .ok (.aconst_null, 1) := by decide +kernel
theorem dX10_ofNull_10 : decode cX10_ofNull 10 = .ok (.invokespecial 32, 3) := by decide +kernel
theorem dX10_ofNull_13 : decode cX10_ofNull 13 = .ok (.areturn, 1) := by decide +kernel
set_option maxRecDepth 20000 in
theorem ggX11_init_X6_init : GoodIn wsX11_init wsX6_init := goodIn_r _ [21, 22, 2, 3, 23, 24, 25, 26, 27, 28, 29, 30, 31, 32, 33, 34, 35, 36, 37, 38, 39, 40, 41, 42, 43, 44, 45, 46, 47, 48, 49, 50, 51, 52, 53, 54, 55, 56, 57, 58, 59, 60, 61, 62, 132, 133, 134, 135, 136, 137, 138, 139, 111, 112, 113, 114, 140, 141, 142, 143] (by decide +kernel) (by decide +kernel)
set_option maxRecDepth 20000 in
theorem gX11_init_X6_init : GoodIn wsX11_init (wsX6_init) := ggX11_init_X6_init
set_option maxRecDepth 20000 in
theorem ggX11_init_X8_init : GoodIn wsX11_init wsX8_init := goodIn_r _ [65, 66, 2, 3, 67, 68, 69, 70, 71, 72, 73, 74, 75, 33, 76, 77, 78, 79, 80, 81, 82, 83, 84, 85, 86, 87, 88, 89, 90, 91, 92, 93, 94, 95, 96, 97, 98, 99, 100, 101, 40, 41, 102, 103, 44, 45, 46, 47, 48, 49, 50, 51, 52, 53, 54, 55, 56, 57, 58, 59, 60, 61, 62, 104, 105, 106, 107, 108, 109, 124, 125, 126, 127, 128, 129, 130, 131, 144, 145, 146, 147, 148, 149, 150, 151, 152, 153, 140, 141, 142, 143] (by decide +kernel) (by decide +kernel)
set_option maxRecDepth 20000 in
theorem gX11_init_X8_init : GoodIn wsX11_init (wsX8_init) := ggX11_init_X8_init
set_option maxRecDepth 20000 in
theorem ggX11_init_X10_ofNull : GoodIn wsX11_init wsX10_ofNull := goodIn_r _ [83, 84, 85, 82, 86, 87, 88, 89, 2, 3, 90, 91, 92, 93, 94, 149, 150, 151, 152, 153] (by decide +kernel) (by decide +kernel)
set_option maxRecDepth 20000 in
theorem gX11_init_X10_ofNull : GoodIn wsX11_init (va_wsS RX11 41 yX10_ofNull wsX10_ofNull) := goodIn_app (goodIn_of _ (by decide +kernel)) ggX11_init_X10_ofNull
theorem dX11_init_0 : decode cX11_init 0 = .ok (.aload_n 0, 1) := by decide +kernel
theorem dX11_init_1 : decode cX11_init 1 = .ok (.invokespecial 1, 3) := by decide +kernel
theorem dX11_init_4 : decode cX11_init 4 = .ok (.aload_n 0, 1) := by decide +kernel
theorem dX11_init_5 : decode cX11_init 5 = .ok (.new 7, 3) := by decide +kernel
theorem dX11_init_8 : decode cX11_init 8 = .ok (.dup, 1) := by decide +kernel
theorem dX11_init_9 : decode cX11_init 9 = .ok (.invokespecial 9, 3) := by decide +kernel
theorem dX11_init_12 : decode cX11_init 12 = .ok (.putfield 10, 3) := by decide +kernel
theorem dX11_init_15 : decode cX11_init 15 = .ok (.aload_n 0, 1) := by decide +kernel
theorem dX11_init_16 : decode cX11_init 16 = .ok (.new 16, 3) := by decide +kernel
theorem dX11_init_19 : decode cX11_init 19 = .ok (.dup, 1) := by decide +kernel
theorem dX11_init_20 : decode cX11_init 20 = .ok (.invokespecial 18, 3) := by decide +kernel
theorem dX11_init_23 : decode cX11_init 23 = .ok (.putfield 19, 3) := by decide +kernel
theorem dX11_init_26 : decode cX11_init 26 = .ok (.aload_n 0, 1) := by decide +kernel
theorem dX11_init_27 : decode cX11_init 27 = .ok (.bipush 40, 2) := by decide +kernel
theorem dX11_init_29 : decode cX11_init 29 = .ok (.anewarray 23, 3) := by decide +kernel
theorem dX11_init_32 : decode cX11_init 32 = .ok (.putfield 25, 3) := by decide +kernel
theorem dX11_init_35 : decode cX11_init 35 = .ok (.aload_n 0, 1) := by decide +kernel
theorem dX11_init_36 : decode cX11_init 36 = .ok (.iconst 5, 1) := by decide +kernel
theorem dX11_init_37 : decode cX11_init 37 = .ok (.anewarray 29, 3) := by decide +kernel
theorem dX11_init_40 : decode cX11_init 40 = .ok (.putfield 31, 3) := by decide +kernel
theorem dX11_init_43 : decode cX11_init 43 = .ok (.aload_n 0, 1) := by decide +kernel
theorem dX11_init_44 : decode cX11_init 44 = .ok (.bipush 30, 2) := by decide +kernel
theorem dX11_init_46 : decode cX11_init 46 = .ok (.anewarray 35, 3) := by decide +kernel
theorem dX11_init_49 : decode cX11_init 49 = .ok (.putfield 37, 3) := by decide +kernel
theorem dX11_init_52 : decode cX11_init 52 = .ok (.aload_n 0, 1) := by decide +kernel
theorem dX11_init_53 : decode cX11_init 53 = .ok (.invokestatic 41, 3) := by decide +kernel
theorem dX11_init_56 : decode cX11_init 56 = .ok (.putfield 45, 3) := by decide +kernel
theorem dX11_init_59 : decode cX11_init 59 = .ok (.return_, 1) := by decide +kernel
theorem dX12_init_0 : decode cX12_init 0 = .ok (.aload_n 0, 1) := by decide +kernel
theorem dX12_init_1 : decode cX12_init 1 = .ok (.invokespecial 1, 3) := by decide +kernel
theorem dX12_init_4 : decode cX12_init 4 = .ok (.aload_n 0, 1) := by decide +kernel
theorem dX12_init_5 : decode cX12_init 5 = .ok (.bipush 40, 2) := by decide +kernel
theorem dX12_init_7 : decode cX12_init 7 = .ok (.newarray .int, 2) := by decide +kernel
theorem dX12_init_9 : decode cX12_init 9 = .ok (.putfield 7, 3) := by decide +kernel
theorem dX12_init_12 : decode cX12_init 12 = .ok (.aload_n 0, 1) := by decide +kernel
theorem dX12_init_13 : decode cX12_init 13 = .ok (.bipush 42, 2) := by decide +kernel
theorem dX12_init_15 : decode cX12_init 15 = .ok (.newarray .int, 2) := by decide +kernel
theorem dX12_init_17 : decode cX12_init 17 = .ok (.putfield 13, 3) := by decide +kernel
theorem dX12_init_20 : decode cX12_init 20 = .ok (.aload_n 0, 1) := by decide +kernel
theorem dX12_init_21 : decode cX12_init 21 = .ok (.bipush 42, 2) := by decide +kernel
theorem dX12_init_23 : decode cX12_init 23 = .ok (.newarray .int, 2) := by decide +kernel
theorem dX12_init_25 : decode cX12_init 25 = .ok (.putfield 16, 3) := by decide +kernel
theorem dX12_init_28 : decode cX12_init 28 = .ok (.aload_n 0, 1) := by decide +kernel
theorem dX12_init_29 : decode cX12_init 29 = .ok (.bipush 42, 2) := by decide +kernel
theorem dX12_init_31 : decode cX12_init 31 = .ok (.newarray .long, 2) := by decide +kernel
theorem dX12_init_33 : decode cX12_init 33 = .ok (.putfield 19, 3) := by decide +kernel
theorem dX12_init_36 : decode cX12_init 36 = .ok (.aload_n 0, 1) := by decide +kernel
theorem dX12_init_37 : decode cX12_init 37 = .ok (.bipush 42, 2) := by decide +kernel
theorem dX12_init_39 : decode cX12_init 39 = .ok (.newarray .int, 2) := by decide +kernel
theorem dX12_init_41 : decode cX12_init 41 = .ok (.putfield 23, 3) := by decide +kernel
theorem dX12_init_44 : decode cX12_init 44 = .ok (.aload_n 0, 1) := by decide +kernel
theorem dX12_init_45 : decode cX12_init 45 = .ok (.sipush 3600, 3) := by decide +kernel
theorem dX12_init_48 : decode cX12_init 48 = .ok (.newarray .int, 2) := by decide +kernel
theorem dX12_init_50 : decode cX12_init 50 = .ok (.putfield 26, 3) := by decide +kernel
theorem dX12_init_53 : decode cX12_init 53 = .ok (.aload_n 0, 1) := by decide +kernel
theorem dX12_init_54 : decode cX12_init 54 = .ok (.sipush 3600, 3) := by decide +kernel
theorem dX12_init_57 : decode cX12_init 57 = .ok (.newarray .long, 2) := by decide +kernel
theorem dX12_init_59 : decode cX12_init 59 = .ok (.putfield 29, 3) := by decide +kernel
theorem dX12_init_62 : decode cX12_init 62 = .ok (.aload_n 0, 1) := by decide +kernel
theorem dX12_init_63 : decode cX12_init 63 = .ok (.bipush 40, 2) := by decide +kernel
theorem dX12_init_65 : decode cX12_init 65 = .ok (.newarray .int, 2) := by decide +kernel
theorem dX12_init_67 : decode cX12_init 67 = .ok (.putfield 32, 3) := by decide +kernel
theorem dX12_init_70 : decode cX12_init 70 = .ok (.aload_n 0, 1) := by decide +kernel
theorem dX12_init_71 : decode cX12_init 71 = .ok (.bipush 8, 2) := by decide +kernel
theorem dX12_init_73 : decode cX12_init 73 = .ok (.newarray .int, 2) := by decide +kernel
theorem dX12_init_75 : decode cX12_init 75 = .ok (.putfield 35, 3) := by decide +kernel
theorem dX12_init_78 : decode cX12_init 78 = .ok (.aload_n 0, 1) := by decide +kernel
theorem dX12_init_79 : decode cX12_init 79 = .ok (.bipush 8, 2) := by decide +kernel
theorem dX12_init_81 : decode cX12_init 81 = .ok (.newarray .int, 2) := by decide +kernel
theorem dX12_init_83 : decode cX12_init 83 = .ok (.putfield 38, 3) := by decide +kernel
theorem dX12_init_86 : decode cX12_init 86 = .ok (.aload_n 0, 1) := by decide +kernel
theorem dX12_init_87 : decode cX12_init 87 = .ok (.bipush 8, 2) := by decide +kernel
theorem dX12_init_89 : decode cX12_init 89 = .ok (.newarray .int, 2) := by decide +kernel
theorem dX12_init_91 : decode cX12_init 91 = .ok (.putfield 41, 3) := by decide +kernel
theorem dX12_init_94 : decode cX12_init 94 = .ok (.aload_n 0, 1) := by decide +kernel
theorem dX12_init_95 : decode cX12_init 95 = .ok (.bipush 8, 2) := by decide +kernel
theorem dX12_init_97 : decode cX12_init 97 = .ok (.newarray .int, 2) := by decide +kernel
theorem dX12_init_99 : decode cX12_init 99 = .ok (.putfield 44, 3) := by decide +kernel
theorem dX12_init_102 : decode cX12_init 102 = .ok (.aload_n 0, 1) := by decide +kernel
theorem dX12_init_103 : decode cX12_init 103 = .ok (.bipush 8, 2) := by decide +kernel
theorem dX12_init_105 : decode cX12_init 105 = .ok (.newarray .int, 2) := by decide +kernel
theorem dX12_init_107 : decode cX12_init 107 = .ok (.putfield 47, 3) := by decide +kernel
theorem dX12_init_110 : decode cX12_init 110 = .ok (.aload_n 0, 1) := by decide +kernel
theorem dX12_init_111 : decode cX12_init 111 = .ok (.bipush 8, 2) := by decide +kernel
theorem dX12_init_113 : decode cX12_init 113 = .ok (.newarray .int, 2) := by decide +kernel
theorem dX12_init_115 : decode cX12_init 115 = .ok (.putfield 50, 3) := by decide +kernel
theorem dX12_init_118 : decode cX12_init 118 = .ok (.aload_n 0, 1) := by decide +kernel
theorem dX12_init_119 : decode cX12_init 119 = .ok (.bipush 8, 2) := by decide +kernel
theorem dX12_init_121 : decode cX12_init 121 = .ok (.newarray .boolean, 2) := by decide +kernel
theorem dX12_init_123 : decode cX12_init 123 = .ok (.putfield 53, 3) := by decide +kernel
theorem dX12_init_126 : decode cX12_init 126 = .ok (.aload_n 0, 1) := by decide +kernel
theorem dX12_init_127 : decode cX12_init 127 = .ok (.bipush 8, 2) := by decide +kernel
theorem dX12_init_129 : decode cX12_init 129 = .ok (.newarray .boolean, 2) := by decide +kernel
theorem dX12_init_131 : decode cX12_init 131 = .ok (.putfield 57, 3) := by decide +kernel
theorem dX12_init_134 : decode cX12_init 134 = .ok (.aload_n 0, 1) := by decide +kernel
theorem dX12_init_135 : decode cX12_init 135 = .ok (.bipush 8, 2) := by decide +kernel
theorem dX12_init_137 : decode cX12_init 137 = .ok (.newarray .boolean, 2) := by decide +kernel
theorem dX12_init_139 : decode cX12_init 139 = .ok (.putfield 60, 3) := by decide +kernel
theorem dX12_init_142 : decode cX12_init 142 = .ok (.aload_n 0, 1) := by decide +kernel
theorem dX12_init_143 : decode cX12_init 143 = .ok (.bipush 48, 2) := by decide +kernel
theorem dX12_init_145 : decode cX12_init 145 = .ok (.newarray .int, 2) := by decide +kernel
theorem dX12_init_147 : decode cX12_init 147 = .ok (.putfield 63, 3) := by decide +kernel
theorem dX12_init_150 : decode cX12_init 150 = .ok (.aload_n 0, 1) := by decide +kernel
theorem dX12_init_151 : decode cX12_init 151 = .ok (.bipush 48, 2) := by decide +kernel
theorem dX12_init_153 : decode cX12_init 153 = .ok (.newarray .int, 2) := by decide +kernel
theorem dX12_init_155 : decode cX12_init 155 = .ok (.putfield 66, 3) := by decide +kernel
theorem dX12_init_158 : decode cX12_init 158 = .ok (.aload_n 0, 1) := by decide +kernel
theorem dX12_init_159 : decode cX12_init 159 = .ok (.bipush 48, 2) := by decide +kernel
theorem dX12_init_161 : decode cX12_init 161 = .ok (.newarray .int, 2) := by decide +kernel
theorem dX12_init_163 : decode cX12_init 163 = .ok (.putfield 69, 3) := by decide +kernel
theorem dX12_init_166 : decode cX12_init 166 = .ok (.aload_n 0, 1) := by decide +kernel
theorem dX12_init_167 : decode cX12_init 167 = .ok (.iconst 5, 1) := by decide +kernel
theorem dX12_init_168 : decode cX12_init 168 = .ok (.newarray .int, 2) := by decide +kernel
theorem dX12_init_170 : decode cX12_init 170 = .ok (.putfield 72, 3) := by decide +kernel
theorem dX12_init_173 : decode cX12_init 173 = .ok (.aload_n 0, 1) := by decide +kernel
theorem dX12_init_174 : decode cX12_init 174 = .ok (.iconst 5, 1) := by decide +kernel
theorem dX12_init_175 : decode cX12_init 175 = .ok (.newarray .int, 2) := by decide +kernel
theorem dX12_init_177 : decode cX12_init 177 = .ok (.putfield 75, 3) := by decide +kernel
theorem dX12_init_180 : decode cX12_init 180 = .ok (.aload_n 0, 1) := by decide +kernel
theorem dX12_init_181 : decode cX12_init 181 = .ok (.bipush 30, 2) := by decide +kernel
theorem dX12_init_183 : decode cX12_init 183 = .ok (.newarray .int, 2) := by decide +kernel
theorem dX12_init_185 : decode cX12_init 185 = .ok (.putfield 78, 3) := by decide +kernel
theorem dX12_init_188 : decode cX12_init 188 = .ok (.aload_n 0, 1) := by decide +kernel
theorem dX12_init_189 : decode cX12_init 189 = .ok (.bipush 30, 2) := by decide +kernel
theorem dX12_init_191 : decode cX12_init 191 = .ok (.newarray .int, 2) := by decide +kernel
theorem dX12_init_193 : decode cX12_init 193 = .ok (.putfield 81, 3) := by decide +kernel
theorem dX12_init_196 : decode cX12_init 196 = .ok (.aload_n 0, 1) := by decide +kernel
theorem dX12_init_197 : decode cX12_init 197 = .ok (.iconst 5, 1) := by decide +kernel
theorem dX12_init_198 : decode cX12_init 198 = .ok (.newarray .int, 2) := by decide +kernel
theorem dX12_init_200 : decode cX12_init 200 = .ok (.putfield 84, 3) := by decide +kernel
theorem dX12_init_203 : decode cX12_init 203 = .ok (.aload_n 0, 1) := by decide +kernel
theorem dX12_init_204 : decode cX12_init 204 = .ok (.bipush 30, 2) := by decide +kernel
theorem dX12_init_206 : decode cX12_init 206 = .ok (.newarray .int, 2) := by decide +kernel
theorem dX12_init_208 : decode cX12_init 208 = .ok (.putfield 87, 3) := by decide +kernel
theorem dX12_init_211 : decode cX12_init 211 = .ok (.aload_n 0, 1) := by decide +kernel
theorem dX12_init_212 : decode cX12_init 212 = .ok (.bipush 30, 2) := by decide +kernel
theorem dX12_init_214 : decode cX12_init 214 = .ok (.newarray .int, 2) := by decide +kernel
theorem dX12_init_216 : decode cX12_init 216 = .ok (.putfield 90, 3) := by decide +kernel
theorem dX12_init_219 : decode cX12_init 219 = .ok (.aload_n 0, 1) := by decide +kernel
theorem dX12_init_220 : decode cX12_init 220 = .ok (.bipush 30, 2) := by decide +kernel
theorem dX12_init_222 : decode cX12_init 222 = .ok (.newarray .int, 2) := by decide +kernel
theorem dX12_init_224 : decode cX12_init 224 = .ok (.putfield 93, 3) := by decide +kernel
theorem dX12_init_227 : decode cX12_init 227 = .ok (.aload_n 0, 1) := by decide +kernel
theorem dX12_init_228 : decode cX12_init 228 = .ok (.bipush 30, 2) := by decide +kernel
theorem dX12_init_230 : decode cX12_init 230 = .ok (.newarray .int, 2) := by decide +kernel
theorem dX12_init_232 : decode cX12_init 232 = .ok (.putfield 96, 3) := by decide +kernel
theorem dX12_init_235 : decode cX12_init 235 = .ok (.aload_n 0, 1) := by decide +kernel
theorem dX12_init_236 : decode cX12_init 236 = .ok (.bipush 30, 2) := by decide +kernel
theorem dX12_init_238 : decode cX12_init 238 = .ok (.newarray .int, 2) := by decide +kernel
theorem dX12_init_240 : decode cX12_init 240 = .ok (.putfield 99, 3) := by decide +kernel
theorem dX12_init_243 : decode cX12_init 243 = .ok (.aload_n 0, 1) := by decide +kernel
theorem dX12_init_244 : decode cX12_init 244 = .ok (.bipush 65, 2) := by decide +kernel
theorem dX12_init_246 : decode cX12_init 246 = .ok (.newarray .boolean, 2) := by decide +kernel
theorem dX12_init_248 : decode cX12_init 248 = .ok (.putfield 102, 3) := by decide +kernel
theorem dX12_init_251 : decode cX12_init 251 = .ok (.aload_n 0, 1) := by decide +kernel
theorem dX12_init_252 : decode cX12_init 252 = .ok (.bipush 30, 2) := by decide +kernel
theorem dX12_init_254 : decode cX12_init 254 = .ok (.newarray .int, 2) := by decide +kernel
theorem dX12_init_256 : decode cX12_init 256 = .ok (.putfield 105, 3) := by decide +kernel
theorem dX12_init_259 : decode cX12_init 259 = .ok (.aload_n 0, 1) := by decide +kernel
theorem dX12_init_260 : decode cX12_init 260 = .ok (.bipush 12, 2) := by decide +kernel
theorem dX12_init_262 : decode cX12_init 262 = .ok (.newarray .int, 2) := by decide +kernel
theorem dX12_init_264 : decode cX12_init 264 = .ok (.putfield 108, 3) := by decide +kernel
theorem dX12_init_267 : decode cX12_init 267 = .ok (.aload_n 0, 1) := by decide +kernel
theorem dX12_init_268 : decode cX12_init 268 = .ok (.sipush 980, 3) := by decide +kernel
theorem dX12_init_271 : decode cX12_init 271 = .ok (.newarray .int, 2) := by decide +kernel
theorem dX12_init_273 : decode cX12_init 273 = .ok (.putfield 111, 3) := by decide +kernel
theorem dX12_init_276 : decode cX12_init 276 = .ok (.aload_n 0, 1) := by decide +kernel
theorem dX12_init_277 : decode cX12_init 277 = .ok (.sipush 980, 3) := by decide +kernel
theorem dX12_init_280 : decode cX12_init 280 = .ok (.newarray .long, 2) := by decide +kernel
theorem dX12_init_282 : decode cX12_init 282 = .ok (.putfield 114, 3) := by decide +kernel
theorem dX12_init_285 : decode cX12_init 285 = .ok (.aload_n 0, 1) := by decide +kernel
theorem dX12_init_286 : decode cX12_init 286 = .ok (.sipush 980, 3) := by decide +kernel
theorem dX12_init_289 : decode cX12_init 289 = .ok (.newarray .long, 2) := by decide +kernel
theorem dX12_init_291 : decode cX12_init 291 = .ok (.putfield 117, 3) := by decide +kernel
theorem dX12_init_294 : decode cX12_init 294 = .ok (.aload_n 0, 1) := by decide +kernel
theorem dX12_init_295 : decode cX12_init 295 = .ok (.sipush 980, 3) := by decide +kernel
theorem dX12_init_298 : decode cX12_init 298 = .ok (.newarray .double, 2) := by decide +kernel
theorem dX12_init_300 : decode cX12_init 300 = .ok (.putfield 120, 3) := by decide +kernel
theorem dX12_init_303 : decode cX12_init 303 = .ok (.aload_n 0, 1) := by decide +kernel
theorem dX12_init_304 : decode cX12_init 304 = .ok (.bipush 48, 2) := by decide +kernel
theorem dX12_init_306 : decode cX12_init 306 = .ok (.newarray .int, 2) := by decide +kernel
theorem dX12_init_308 : decode cX12_init 308 = .ok (.putfield 124, 3) := by decide +kernel
theorem dX12_init_311 : decode cX12_init 311 = .ok (.return_, 1) := by decide +kernel
theorem dJ5_init_d00df_0 : decode cJ5_init_d00df 0 = .ok (.aload_n 0, 1) := by decide +kernel
theorem dJ5_init_d00df_1 : decode cJ5_init_d00df 1 = .ok (.invokespecial 3, 3) := by decide +kernel
theorem dJ5_init_d00df_4 : decode cJ5_init_d00df 4 = .ok (.getstatic 18, 3) := by decide +kernel
theorem dJ5_init_d00df_7 : decode cJ5_init_d00df 7 = .ok (.ifCond .eq 18, 3) := by decide +kernel
theorem dJ5_init_d00df_10 : decode cJ5_init_d00df 10 = .ok (.aload_n 0, 1) := by decide +kernel
theorem dJ5_init_d00df_11 : decode cJ5_init_d00df 11 = .ok (.iload_n 1, 1) := by decide +kernel
theorem dJ5_init_d00df_12 : decode cJ5_init_d00df 12 = .ok (.newarray .byte, 2) := by decide +kernel
theorem dJ5_init_d00df_14 : decode cJ5_init_d00df 14 = .ok (.putfield 15, 3) := by decide +kernel
theorem dJ5_init_d00df_17 : decode cJ5_init_d00df 17 = .ok (.aload_n 0, 1) := by decide +kernel
theorem dJ5_init_d00df_18 : decode cJ5_init_d00df 18 = .ok (.iconst 0, 1) := by decide +kernel
theorem dJ5_init_d00df_19 : decode cJ5_init_d00df 19 = .ok (.putfield 22, 3) := by decide +kernel
theorem dJ5_init_d00df_22 : decode cJ5_init_d00df 22 = .ok (.goto 16, 3) := by decide +kernel
theorem dJ5_init_d00df_38 : decode cJ5_init_d00df 38 = .ok (.return_, 1) := by decide +kernel
set_option maxRecDepth 20000 in
theorem ggJ4_init_da8c8_J5_init_d00df : GoodIn wsJ4_init_da8c8 wsJ5_init_d00df := goodIn_r _ [4, 5, 6, 7, 8, 9, 10, 11, 12, 13, 14, 15, 16, 17, 18, 19, 20, 21, 22, 23] (by decide +kernel) (by decide +kernel)
set_option maxRecDepth 20000 in
theorem gJ4_init_da8c8_J5_init_d00df : GoodIn wsJ4_init_da8c8 (wsJ5_init_d00df) := ggJ4_init_da8c8_J5_init_d00df
theorem dJ4_init_da8c8_0 : decode cJ4_init_da8c8 0 = .ok (.aload_n 0, 1) := by decide +kernel
theorem dJ4_init_da8c8_1 : decode cJ4_init_da8c8 1 = .ok (.bipush 16, 2) := by decide +kernel
theorem dJ4_init_da8c8_3 : decode cJ4_init_da8c8 3 = .ok (.invokespecial 1, 3) := by decide +kernel
theorem dJ4_init_da8c8_6 : decode cJ4_init_da8c8 6 = .ok (.return_, 1) := by decide +kernel
abbrev vwCl : List vw_C := [(RJ0, TJ0, 4), (RJ4, TJ4, 4), (RX0, TX0, 2), (RX1, TX1, 7), (RX2, TX2, 3), (RX3, TX3, 3), (RX4, TX4, 8), (RX5, TX5, 8), (RX6, TX6, 4), (RX7, TX7, 6), (RX8, TX8, 8), (RX9, TX9, 3), (RX10, TX10, 5), (RX11, TX11, 9), (RX12, TX12, 60)]
