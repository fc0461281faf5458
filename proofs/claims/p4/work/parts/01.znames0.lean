def RX0 : String := "PhraseDesk$Converters"
def TX0 : u_T := fun k => match k with
  | 0 => ("PhraseDesk$Converters", "there", "[Z", true)
  | _ => ("PhraseDesk$Converters", "scratch", "Ljava/lang/StringBuilder;", true)
def RX1 : String := "PhraseDesk$Family"
def TX1 : u_T := fun k => match k with
  | 0 => ("PhraseDesk$Family", "number", "I", true)
  | 1 => ("PhraseDesk$Family", "kind", "I", true)
  | 2 => ("PhraseDesk$Family", "parent", "LPhraseDesk$Family;", true)
  | 3 => ("PhraseDesk$Family", "fields", "[LPhraseDesk$Field;", true)
  | 4 => ("PhraseDesk$Family", "fieldCount", "I", false)
  | 5 => ("PhraseDesk$Family", "routines", "[LPhraseDesk$Routine;", true)
  | _ => ("PhraseDesk$Family", "routineCount", "I", false)
def RX2 : String := "PhraseDesk$Field"
def TX2 : u_T := fun k => match k with
  | 0 => ("PhraseDesk$Field", "name", "I", true)
  | 1 => ("PhraseDesk$Field", "type", "I", true)
  | _ => ("PhraseDesk$Field", "slot", "I", true)
def RX3 : String := "PhraseDesk$Finder"
def TX3 : u_T := fun k => match k with
  | 0 => ("PhraseDesk$Finder", "candidates", "[LPhraseDesk$Routine;", true)
  | 1 => ("PhraseDesk$Finder", "count", "I", false)
  | _ => ("PhraseDesk$Finder", "failure", "I", false)
def RX4 : String := "PhraseDesk$Lexer"
def TX4 : u_T := fun k => match k with
  | 0 => ("PhraseDesk$Lexer", "letters", "[C", true)
  | 1 => ("PhraseDesk$Lexer", "length", "I", false)
  | 2 => ("PhraseDesk$Lexer", "kinds", "[I", true)
  | 3 => ("PhraseDesk$Lexer", "places", "[I", true)
  | 4 => ("PhraseDesk$Lexer", "names", "[I", true)
  | 5 => ("PhraseDesk$Lexer", "literals", "[LPhraseDesk$Value;", true)
  | 6 => ("PhraseDesk$Lexer", "count", "I", false)
  | _ => ("PhraseDesk$Lexer", "scratch", "Ljava/lang/StringBuilder;", true)
def RX5 : String := "PhraseDesk$Node"
def TX5 : u_T := fun k => match k with
  | 0 => ("PhraseDesk$Node", "op", "I", true)
  | 1 => ("PhraseDesk$Node", "name", "I", true)
  | 2 => ("PhraseDesk$Node", "literal", "LPhraseDesk$Value;", true)
  | 3 => ("PhraseDesk$Node", "one", "LPhraseDesk$Node;", true)
  | 4 => ("PhraseDesk$Node", "two", "LPhraseDesk$Node;", true)
  | 5 => ("PhraseDesk$Node", "three", "LPhraseDesk$Node;", true)
  | 6 => ("PhraseDesk$Node", "lenient", "Z", false)
  | _ => ("PhraseDesk$Node", "bracketed", "Z", false)
def RX6 : String := "PhraseDesk$Parser"
def TX6 : u_T := fun k => match k with
  | 0 => ("PhraseDesk$Parser", "lexer", "LPhraseDesk$Lexer;", true)
  | 1 => ("PhraseDesk$Parser", "at", "I", false)
  | 2 => ("PhraseDesk$Parser", "error", "I", false)
  | _ => ("PhraseDesk$Parser", "place", "I", false)
def RX7 : String := "PhraseDesk$Routine"
def TX7 : u_T := fun k => match k with
  | 0 => ("PhraseDesk$Routine", "name", "I", true)
  | 1 => ("PhraseDesk$Routine", "one", "I", true)
  | 2 => ("PhraseDesk$Routine", "two", "I", true)
  | 3 => ("PhraseDesk$Routine", "parameters", "I", true)
  | 4 => ("PhraseDesk$Routine", "action", "I", true)
  | _ => ("PhraseDesk$Routine", "number", "I", true)
def RX8 : String := "PhraseDesk$Runner"
def TX8 : u_T := fun k => match k with
  | 0 => ("PhraseDesk$Runner", "nothing", "LPhraseDesk$Value;", true)
  | 1 => ("PhraseDesk$Runner", "converters", "LPhraseDesk$Converters;", true)
  | 2 => ("PhraseDesk$Runner", "finder", "LPhraseDesk$Finder;", true)
  | 3 => ("PhraseDesk$Runner", "variableNames", "[I", true)
  | 4 => ("PhraseDesk$Runner", "variableValues", "[LPhraseDesk$Value;", true)
  | 5 => ("PhraseDesk$Runner", "variableCount", "I", false)
  | 6 => ("PhraseDesk$Runner", "root", "LPhraseDesk$Value;", false)
  | _ => ("PhraseDesk$Runner", "failure", "I", false)
def RX9 : String := "PhraseDesk$Thing"
def TX9 : u_T := fun k => match k with
  | 0 => ("PhraseDesk$Thing", "number", "I", true)
  | 1 => ("PhraseDesk$Thing", "family", "LPhraseDesk$Family;", true)
  | _ => ("PhraseDesk$Thing", "values", "[LPhraseDesk$Value;", true)
def RX10 : String := "PhraseDesk$Value"
def TX10 : u_T := fun k => match k with
  | 0 => ("PhraseDesk$Value", "kind", "I", true)
  | 1 => ("PhraseDesk$Value", "number", "I", true)
  | 2 => ("PhraseDesk$Value", "real", "D", true)
  | 3 => ("PhraseDesk$Value", "chars", "Ljava/lang/String;", true)
  | _ => ("PhraseDesk$Value", "thing", "LPhraseDesk$Thing;", true)
def RX11 : String := "PhraseDesk"
def TX11 : u_T := fun k => match k with
  | 0 => ("PhraseDesk", "parser", "LPhraseDesk$Parser;", true)
  | 1 => ("PhraseDesk", "runner", "LPhraseDesk$Runner;", true)
  | 2 => ("PhraseDesk", "programs", "[LPhraseDesk$Node;", true)
  | 3 => ("PhraseDesk", "programCount", "I", false)
  | 4 => ("PhraseDesk", "families", "[LPhraseDesk$Family;", true)
  | 5 => ("PhraseDesk", "familyCount", "I", false)
  | 6 => ("PhraseDesk", "objects", "[LPhraseDesk$Value;", true)
  | 7 => ("PhraseDesk", "objectCount", "I", false)
  | _ => ("PhraseDesk", "latest", "LPhraseDesk$Value;", false)
def RX12 : String := "PhraseDeskModel"
def TX12 : u_T := fun k => match k with
  | 0 => ("PhraseDeskModel", "threw", "I", false)
  | 1 => ("PhraseDeskModel", "size", "I", false)
  | 2 => ("PhraseDeskModel", "letters", "[I", true)
  | 3 => ("PhraseDeskModel", "tokens", "I", false)
  | 4 => ("PhraseDeskModel", "tokenKind", "[I", true)
  | 5 => ("PhraseDeskModel", "tokenAt", "[I", true)
  | 6 => ("PhraseDeskModel", "token", "[J", true)
  | 7 => ("PhraseDeskModel", "scale", "[I", true)
  | 8 => ("PhraseDeskModel", "error", "I", false)
  | 9 => ("PhraseDeskModel", "where", "I", false)
  | 10 => ("PhraseDeskModel", "programs", "I", false)
  | 11 => ("PhraseDeskModel", "step", "[I", true)
  | 12 => ("PhraseDeskModel", "with", "[J", true)
  | 13 => ("PhraseDeskModel", "lengths", "[I", true)
  | 14 => ("PhraseDeskModel", "next", "I", false)
  | 15 => ("PhraseDeskModel", "start", "I", false)
  | 16 => ("PhraseDeskModel", "written", "I", false)
  | 17 => ("PhraseDeskModel", "operand", "Z", false)
  | 18 => ("PhraseDeskModel", "done", "Z", false)
  | 19 => ("PhraseDeskModel", "frames", "I", false)
  | 20 => ("PhraseDeskModel", "frame", "[I", true)
  | 21 => ("PhraseDeskModel", "base", "[I", true)
  | 22 => ("PhraseDeskModel", "sign", "[I", true)
  | 23 => ("PhraseDeskModel", "patch", "[I", true)
  | 24 => ("PhraseDeskModel", "callName", "[I", true)
  | 25 => ("PhraseDeskModel", "callCount", "[I", true)
  | 26 => ("PhraseDeskModel", "closed", "[Z", true)
  | 27 => ("PhraseDeskModel", "plain", "[Z", true)
  | 28 => ("PhraseDeskModel", "aims", "[Z", true)
  | 29 => ("PhraseDeskModel", "waiting", "I", false)
  | 30 => ("PhraseDeskModel", "operation", "[I", true)
  | 31 => ("PhraseDeskModel", "level", "[I", true)
  | 32 => ("PhraseDeskModel", "jump", "[I", true)
  | 33 => ("PhraseDeskModel", "target", "I", false)
  | 34 => ("PhraseDeskModel", "targetStep", "I", false)
  | 35 => ("PhraseDeskModel", "classes", "I", false)
  | 36 => ("PhraseDeskModel", "parent", "[I", true)
  | 37 => ("PhraseDeskModel", "fields", "[I", true)
  | 38 => ("PhraseDeskModel", "fieldName", "[I", true)
  | 39 => ("PhraseDeskModel", "fieldType", "[I", true)
  | 40 => ("PhraseDeskModel", "methods", "[I", true)
  | 41 => ("PhraseDeskModel", "methodName", "[I", true)
  | 42 => ("PhraseDeskModel", "one", "[I", true)
  | 43 => ("PhraseDeskModel", "two", "[I", true)
  | 44 => ("PhraseDeskModel", "action", "[I", true)
  | 45 => ("PhraseDeskModel", "methodNumber", "[I", true)
  | 46 => ("PhraseDeskModel", "converts", "[Z", true)
  | 47 => ("PhraseDeskModel", "objects", "I", false)
  | 48 => ("PhraseDeskModel", "classOf", "[I", true)
  | 49 => ("PhraseDeskModel", "variables", "I", false)
  | 50 => ("PhraseDeskModel", "variable", "[I", true)
  | 51 => ("PhraseDeskModel", "kind", "[I", true)
  | 52 => ("PhraseDeskModel", "a", "[J", true)
  | 53 => ("PhraseDeskModel", "b", "[J", true)
  | 54 => ("PhraseDeskModel", "real", "[D", true)
  | 55 => ("PhraseDeskModel", "top", "I", false)
  | 56 => ("PhraseDeskModel", "failure", "I", false)
  | 57 => ("PhraseDeskModel", "root", "I", false)
  | 58 => ("PhraseDeskModel", "built", "[I", true)
  | _ => ("PhraseDeskModel", "builtSize", "I", false)
def tyX12 : Nat → FieldType := fun k => match k with
  | 0 => .int
  | 1 => .int
  | 2 => .array .int
  | 3 => .int
  | 4 => .array .int
  | 5 => .array .int
  | 6 => .array .long
  | 7 => .array .int
  | 8 => .int
  | 9 => .int
  | 10 => .int
  | 11 => .array .int
  | 12 => .array .long
  | 13 => .array .int
  | 14 => .int
  | 15 => .int
  | 16 => .int
  | 17 => .boolean
  | 18 => .boolean
  | 19 => .int
  | 20 => .array .int
  | 21 => .array .int
  | 22 => .array .int
  | 23 => .array .int
  | 24 => .array .int
  | 25 => .array .int
  | 26 => .array .boolean
  | 27 => .array .boolean
  | 28 => .array .boolean
  | 29 => .int
  | 30 => .array .int
  | 31 => .array .int
  | 32 => .array .int
  | 33 => .int
  | 34 => .int
  | 35 => .int
  | 36 => .array .int
  | 37 => .array .int
  | 38 => .array .int
  | 39 => .array .int
  | 40 => .array .int
  | 41 => .array .int
  | 42 => .array .int
  | 43 => .array .int
  | 44 => .array .int
  | 45 => .array .int
  | 46 => .array .boolean
  | 47 => .int
  | 48 => .array .int
  | 49 => .int
  | 50 => .array .int
  | 51 => .array .int
  | 52 => .array .long
  | 53 => .array .long
  | 54 => .array .double
  | 55 => .int
  | 56 => .int
  | 57 => .int
  | 58 => .array .int
  | _ => .int
abbrev wsX120 : List Cond := u_ws RX12 TX12 60
theorem nmX12 : ∀ a, a < 60 → ∀ b, b < 60 → a ≠ b → (TX12 a).2.1 ≠ (TX12 b).2.1 := by decide +kernel
theorem tyX12_ok : ∀ k, k < 60 → parseFieldDescriptor (TX12 k).2.2.1 = some (tyX12 k) := by decide +kernel
abbrev cX12_thrown : ByteArray := prog_14_method_2_code
def yX12_thrown : MethodName := ⟨RX12, "thrown", "()I"⟩
abbrev cX12_at : ByteArray := prog_14_method_4_code
def yX12_at : MethodName := ⟨RX12, "at", "(I)I"⟩
abbrev cX12_digit : ByteArray := prog_14_method_5_code
def yX12_digit : MethodName := ⟨RX12, "digit", "(I)Z"⟩
abbrev cX12_lower : ByteArray := prog_14_method_6_code
def yX12_lower : MethodName := ⟨RX12, "lower", "(I)Z"⟩
abbrev cX12_wrong : ByteArray := prog_14_method_7_code
def yX12_wrong : MethodName := ⟨RX12, "wrong", "(II)V"⟩
abbrev cX12_add : ByteArray := prog_14_method_8_code
def yX12_add : MethodName := ⟨RX12, "add", "(IIJ)V"⟩
abbrev cX12_number : ByteArray := prog_14_method_9_code
def yX12_number : MethodName := ⟨RX12, "number", "(I)I"⟩
abbrev cX12_name : ByteArray := prog_14_method_10_code
def yX12_name : MethodName := ⟨RX12, "name", "(I)I"⟩
abbrev cX12_quoted : ByteArray := prog_14_method_11_code
def yX12_quoted : MethodName := ⟨RX12, "quoted", "(I)I"⟩
abbrev cX12_single : ByteArray := prog_14_method_12_code
def yX12_single : MethodName := ⟨RX12, "single", "(I)Z"⟩
abbrev cX12_twice : ByteArray := prog_14_method_13_code
def yX12_twice : MethodName := ⟨RX12, "twice", "(II)Z"⟩
abbrev cX12_sign : ByteArray := prog_14_method_14_code
def yX12_sign : MethodName := ⟨RX12, "sign", "(I)I"⟩
abbrev cX12_cut : ByteArray := prog_14_method_15_code
def yX12_cut : MethodName := ⟨RX12, "cut", "()V"⟩
def RJ0 : String := "java/lang/String"
def TJ0 : u_T := fun k => match k with
  | 0 => ("java/lang/String", "value", "[B", true)
  | 1 => ("java/lang/String", "coder", "B", true)
  | 2 => ("java/lang/String", "hash", "I", false)
  | _ => ("java/lang/String", "hashIsZero", "Z", false)
def RJ4 : String := "java/lang/StringBuilder"
def TJ4 : u_T := fun k => match k with
  | 0 => ("java/lang/AbstractStringBuilder", "value", "[B", false)
  | 1 => ("java/lang/AbstractStringBuilder", "coder", "B", false)
  | 2 => ("java/lang/AbstractStringBuilder", "maybeLatin1", "Z", false)
  | _ => ("java/lang/AbstractStringBuilder", "count", "I", false)
theorem dX12_thrown_0 : decode cX12_thrown 0 = .ok (.aload_n 0, 1) := by decide +kernel
theorem dX12_thrown_1 : decode cX12_thrown 1 = .ok (.getfield 127, 3) := by decide +kernel
theorem dX12_thrown_4 : decode cX12_thrown 4 = .ok (.ireturn, 1) := by decide +kernel
theorem dX12_at_0 : decode cX12_at 0 = .ok (.iload_n 1, 1) := by decide +kernel
theorem dX12_at_1 : decode cX12_at 1 = .ok (.aload_n 0, 1) := by decide +kernel
theorem dX12_at_2 : decode cX12_at 2 = .ok (.getfield 131, 3) := by decide +kernel
theorem dX12_at_5 : decode cX12_at 5 = .ok (.if_icmp .ge 12, 3) := by decide +kernel
theorem dX12_at_8 : decode cX12_at 8 = .ok (.aload_n 0, 1) := by decide +kernel
theorem dX12_at_9 : decode cX12_at 9 = .ok (.getfield 7, 3) := by decide +kernel
theorem dX12_at_12 : decode cX12_at 12 = .ok (.iload_n 1, 1) := by decide +kernel
theorem dX12_at_13 : decode cX12_at 13 = .ok (.iaload, 1) := by decide +kernel
theorem dX12_at_14 : decode cX12_at 14 = .ok (.goto 4, 3) := by decide +kernel
theorem dX12_at_17 : decode cX12_at 17 = .ok (.iconst 0, 1) := by decide +kernel
theorem dX12_at_18 : decode cX12_at 18 = .ok (.ireturn, 1) := by decide +kernel
theorem dX12_digit_0 : decode cX12_digit 0 = .ok (.aload_n 0, 1) := by decide +kernel
theorem dX12_digit_1 : decode cX12_digit 1 = .ok (.iload_n 1, 1) := by decide +kernel
theorem dX12_digit_2 : decode cX12_digit 2 = .ok (.invokevirtual 134, 3) := by decide +kernel
theorem dX12_digit_5 : decode cX12_digit 5 = .ok (.bipush 48, 2) := by decide +kernel
theorem dX12_digit_7 : decode cX12_digit 7 = .ok (.if_icmp .lt 17, 3) := by decide +kernel
theorem dX12_digit_10 : decode cX12_digit 10 = .ok (.aload_n 0, 1) := by decide +kernel
theorem dX12_digit_11 : decode cX12_digit 11 = .ok (.iload_n 1, 1) := by decide +kernel
theorem dX12_digit_12 : decode cX12_digit 12 = .ok (.invokevirtual 134, 3) := by decide +kernel
theorem dX12_digit_15 : decode cX12_digit 15 = .ok (.bipush 57, 2) := by decide +kernel
theorem dX12_digit_17 : decode cX12_digit 17 = .ok (.if_icmp .gt 7, 3) := by decide +kernel
theorem dX12_digit_20 : decode cX12_digit 20 = .ok (.iconst 1, 1) := by decide +kernel
theorem dX12_digit_21 : decode cX12_digit 21 = .ok (.goto 4, 3) := by decide +kernel
theorem dX12_digit_24 : decode cX12_digit 24 = .ok (.iconst 0, 1) := by decide +kernel
theorem dX12_digit_25 : decode cX12_digit 25 = .ok (.ireturn, 1) := by decide +kernel
theorem dX12_lower_0 : decode cX12_lower 0 = .ok (.aload_n 0, 1) := by decide +kernel
theorem dX12_lower_1 : decode cX12_lower 1 = .ok (.iload_n 1, 1) := by decide +kernel
theorem dX12_lower_2 : decode cX12_lower 2 = .ok (.invokevirtual 134, 3) := by decide +kernel
theorem dX12_lower_5 : decode cX12_lower 5 = .ok (.bipush 97, 2) := by decide +kernel
theorem dX12_lower_7 : decode cX12_lower 7 = .ok (.if_icmp .lt 17, 3) := by decide +kernel
theorem dX12_lower_10 : decode cX12_lower 10 = .ok (.aload_n 0, 1) := by decide +kernel
theorem dX12_lower_11 : decode cX12_lower 11 = .ok (.iload_n 1, 1) := by decide +kernel
theorem dX12_lower_12 : decode cX12_lower 12 = .ok (.invokevirtual 134, 3) := by decide +kernel
theorem dX12_lower_15 : decode cX12_lower 15 = .ok (.bipush 122, 2) := by decide +kernel
theorem dX12_lower_17 : decode cX12_lower 17 = .ok (.if_icmp .gt 7, 3) := by decide +kernel
theorem dX12_lower_20 : decode cX12_lower 20 = .ok (.iconst 1, 1) := by decide +kernel
theorem dX12_lower_21 : decode cX12_lower 21 = .ok (.goto 4, 3) := by decide +kernel
theorem dX12_lower_24 : decode cX12_lower 24 = .ok (.iconst 0, 1) := by decide +kernel
theorem dX12_lower_25 : decode cX12_lower 25 = .ok (.ireturn, 1) := by decide +kernel
theorem dX12_wrong_0 : decode cX12_wrong 0 = .ok (.aload_n 0, 1) := by decide +kernel
theorem dX12_wrong_1 : decode cX12_wrong 1 = .ok (.getfield 138, 3) := by decide +kernel
theorem dX12_wrong_4 : decode cX12_wrong 4 = .ok (.ifCond .ne 13, 3) := by decide +kernel
theorem dX12_wrong_7 : decode cX12_wrong 7 = .ok (.aload_n 0, 1) := by decide +kernel
theorem dX12_wrong_8 : decode cX12_wrong 8 = .ok (.iload_n 1, 1) := by decide +kernel
theorem dX12_wrong_9 : decode cX12_wrong 9 = .ok (.putfield 138, 3) := by decide +kernel
theorem dX12_wrong_12 : decode cX12_wrong 12 = .ok (.aload_n 0, 1) := by decide +kernel
theorem dX12_wrong_13 : decode cX12_wrong 13 = .ok (.iload_n 2, 1) := by decide +kernel
theorem dX12_wrong_14 : decode cX12_wrong 14 = .ok (.putfield 141, 3) := by decide +kernel
theorem dX12_wrong_17 : decode cX12_wrong 17 = .ok (.return_, 1) := by decide +kernel
theorem dX12_add_0 : decode cX12_add 0 = .ok (.aload_n 0, 1) := by decide +kernel
theorem dX12_add_1 : decode cX12_add 1 = .ok (.getfield 13, 3) := by decide +kernel
theorem dX12_add_4 : decode cX12_add 4 = .ok (.aload_n 0, 1) := by decide +kernel
theorem dX12_add_5 : decode cX12_add 5 = .ok (.getfield 144, 3) := by decide +kernel
theorem dX12_add_8 : decode cX12_add 8 = .ok (.iload_n 1, 1) := by decide +kernel
theorem dX12_add_9 : decode cX12_add 9 = .ok (.iastore, 1) := by decide +kernel
theorem dX12_add_10 : decode cX12_add 10 = .ok (.aload_n 0, 1) := by decide +kernel
theorem dX12_add_11 : decode cX12_add 11 = .ok (.getfield 16, 3) := by decide +kernel
theorem dX12_add_14 : decode cX12_add 14 = .ok (.aload_n 0, 1) := by decide +kernel
theorem dX12_add_15 : decode cX12_add 15 = .ok (.getfield 144, 3) := by decide +kernel
theorem dX12_add_18 : decode cX12_add 18 = .ok (.iload_n 2, 1) := by decide +kernel
theorem dX12_add_19 : decode cX12_add 19 = .ok (.iastore, 1) := by decide +kernel
theorem dX12_add_20 : decode cX12_add 20 = .ok (.aload_n 0, 1) := by decide +kernel
theorem dX12_add_21 : decode cX12_add 21 = .ok (.getfield 19, 3) := by decide +kernel
theorem dX12_add_24 : decode cX12_add 24 = .ok (.aload_n 0, 1) := by decide +kernel
theorem dX12_add_25 : decode cX12_add 25 = .ok (.getfield 144, 3) := by decide +kernel
theorem dX12_add_28 : decode cX12_add 28 = .ok (.lload_n 3, 1) := by decide +kernel
theorem dX12_add_29 : decode cX12_add 29 = .ok (.lastore, 1) := by decide +kernel
theorem dX12_add_30 : decode cX12_add 30 = .ok (.aload_n 0, 1) := by decide +kernel
theorem dX12_add_31 : decode cX12_add 31 = .ok (.getfield 23, 3) := by decide +kernel
theorem dX12_add_34 : decode cX12_add 34 = .ok (.aload_n 0, 1) := by decide +kernel
theorem dX12_add_35 : decode cX12_add 35 = .ok (.getfield 144, 3) := by decide +kernel
theorem dX12_add_38 : decode cX12_add 38 = .ok (.iconst 0, 1) := by decide +kernel
theorem dX12_add_39 : decode cX12_add 39 = .ok (.iastore, 1) := by decide +kernel
theorem dX12_add_40 : decode cX12_add 40 = .ok (.aload_n 0, 1) := by decide +kernel
theorem dX12_add_41 : decode cX12_add 41 = .ok (.dup, 1) := by decide +kernel
theorem dX12_add_42 : decode cX12_add 42 = .ok (.getfield 144, 3) := by decide +kernel
theorem dX12_add_45 : decode cX12_add 45 = .ok (.iconst 1, 1) := by decide +kernel
theorem dX12_add_46 : decode cX12_add 46 = .ok (.iadd, 1) := by decide +kernel
theorem dX12_add_47 : decode cX12_add 47 = .ok (.putfield 144, 3) := by decide +kernel
theorem dX12_add_50 : decode cX12_add 50 = .ok (.return_, 1) := by decide +kernel
theorem dX12_number_0 : decode cX12_number 0 = .ok (.iload_n 1, 1) := by decide +kernel
theorem dX12_number_1 : decode cX12_number 1 = .ok (.istore_n 2, 1) := by decide +kernel
theorem dX12_number_2 : decode cX12_number 2 = .ok (.lconst 0, 1) := by decide +kernel
theorem dX12_number_3 : decode cX12_number 3 = .ok (.lstore_n 3, 1) := by decide +kernel
theorem dX12_number_4 : decode cX12_number 4 = .ok (.aload_n 0, 1) := by decide +kernel
theorem dX12_number_5 : decode cX12_number 5 = .ok (.iload_n 2, 1) := by decide +kernel
theorem dX12_number_6 : decode cX12_number 6 = .ok (.invokevirtual 147, 3) := by decide +kernel
theorem dX12_number_9 : decode cX12_number 9 = .ok (.ifCond .eq 26, 3) := by decide +kernel
theorem dX12_number_12 : decode cX12_number 12 = .ok (.lload_n 3, 1) := by decide +kernel
theorem dX12_number_13 : decode cX12_number 13 = .ok (.ldc2_w 151, 3) := by decide +kernel
theorem dX12_number_16 : decode cX12_number 16 = .ok (.lmul, 1) := by decide +kernel
theorem dX12_number_17 : decode cX12_number 17 = .ok (.aload_n 0, 1) := by decide +kernel
theorem dX12_number_18 : decode cX12_number 18 = .ok (.iload_n 2, 1) := by decide +kernel
theorem dX12_number_19 : decode cX12_number 19 = .ok (.invokevirtual 134, 3) := by decide +kernel
theorem dX12_number_22 : decode cX12_number 22 = .ok (.i2l, 1) := by decide +kernel
theorem dX12_number_23 : decode cX12_number 23 = .ok (.ladd, 1) := by decide +kernel
theorem dX12_number_24 : decode cX12_number 24 = .ok (.ldc2_w 153, 3) := by decide +kernel
theorem dX12_number_27 : decode cX12_number 27 = .ok (.lsub, 1) := by decide +kernel
theorem dX12_number_28 : decode cX12_number 28 = .ok (.lstore_n 3, 1) := by decide +kernel
theorem dX12_number_29 : decode cX12_number 29 = .ok (.iinc 2 1, 3) := by decide +kernel
theorem dX12_number_32 : decode cX12_number 32 = .ok (.goto (-28), 3) := by decide +kernel
theorem dX12_number_35 : decode cX12_number 35 = .ok (.iload_n 2, 1) := by decide +kernel
theorem dX12_number_36 : decode cX12_number 36 = .ok (.iload_n 1, 1) := by decide +kernel
theorem dX12_number_37 : decode cX12_number 37 = .ok (.isub, 1) := by decide +kernel
theorem dX12_number_38 : decode cX12_number 38 = .ok (.istore 5, 2) := by decide +kernel
theorem dX12_number_40 : decode cX12_number 40 = .ok (.iconst 0, 1) := by decide +kernel
theorem dX12_number_41 : decode cX12_number 41 = .ok (.istore 6, 2) := by decide +kernel
theorem dX12_number_43 : decode cX12_number 43 = .ok (.aload_n 0, 1) := by decide +kernel
theorem dX12_number_44 : decode cX12_number 44 = .ok (.iload_n 2, 1) := by decide +kernel
theorem dX12_number_45 : decode cX12_number 45 = .ok (.invokevirtual 134, 3) := by decide +kernel
theorem dX12_number_48 : decode cX12_number 48 = .ok (.bipush 46, 2) := by decide +kernel
theorem dX12_number_50 : decode cX12_number 50 = .ok (.if_icmp .ne 50, 3) := by decide +kernel
theorem dX12_number_53 : decode cX12_number 53 = .ok (.aload_n 0, 1) := by decide +kernel
theorem dX12_number_54 : decode cX12_number 54 = .ok (.iload_n 2, 1) := by decide +kernel
theorem dX12_number_55 : decode cX12_number 55 = .ok (.iconst 1, 1) := by decide +kernel
theorem dX12_number_56 : decode cX12_number 56 = .ok (.iadd, 1) := by decide +kernel
theorem dX12_number_57 : decode cX12_number 57 = .ok (.invokevirtual 147, 3) := by decide +kernel
theorem dX12_number_60 : decode cX12_number 60 = .ok (.ifCond .eq 40, 3) := by decide +kernel
theorem dX12_number_63 : decode cX12_number 63 = .ok (.iinc 2 1, 3) := by decide +kernel
theorem dX12_number_66 : decode cX12_number 66 = .ok (.aload_n 0, 1) := by decide +kernel
theorem dX12_number_67 : decode cX12_number 67 = .ok (.iload_n 2, 1) := by decide +kernel
theorem dX12_number_68 : decode cX12_number 68 = .ok (.invokevirtual 147, 3) := by decide +kernel
theorem dX12_number_71 : decode cX12_number 71 = .ok (.ifCond .eq 29, 3) := by decide +kernel
theorem dX12_number_74 : decode cX12_number 74 = .ok (.lload_n 3, 1) := by decide +kernel
theorem dX12_number_75 : decode cX12_number 75 = .ok (.ldc2_w 151, 3) := by decide +kernel
theorem dX12_number_78 : decode cX12_number 78 = .ok (.lmul, 1) := by decide +kernel
theorem dX12_number_79 : decode cX12_number 79 = .ok (.aload_n 0, 1) := by decide +kernel
theorem dX12_number_80 : decode cX12_number 80 = .ok (.iload_n 2, 1) := by decide +kernel
theorem dX12_number_81 : decode cX12_number 81 = .ok (.invokevirtual 134, 3) := by decide +kernel
theorem dX12_number_84 : decode cX12_number 84 = .ok (.i2l, 1) := by decide +kernel
theorem dX12_number_85 : decode cX12_number 85 = .ok (.ladd, 1) := by decide +kernel
theorem dX12_number_86 : decode cX12_number 86 = .ok (.ldc2_w 153, 3) := by decide +kernel
theorem dX12_number_89 : decode cX12_number 89 = .ok (.lsub, 1) := by decide +kernel
theorem dX12_number_90 : decode cX12_number 90 = .ok (.lstore_n 3, 1) := by decide +kernel
theorem dX12_number_91 : decode cX12_number 91 = .ok (.iinc 2 1, 3) := by decide +kernel
theorem dX12_number_94 : decode cX12_number 94 = .ok (.iinc 6 1, 3) := by decide +kernel
theorem dX12_number_97 : decode cX12_number 97 = .ok (.goto (-31), 3) := by decide +kernel
theorem dX12_number_100 : decode cX12_number 100 = .ok (.iload 5, 2) := by decide +kernel
theorem dX12_number_102 : decode cX12_number 102 = .ok (.bipush 6, 2) := by decide +kernel
theorem dX12_number_104 : decode cX12_number 104 = .ok (.if_icmp .gt 9, 3) := by decide +kernel
theorem dX12_number_107 : decode cX12_number 107 = .ok (.iload 6, 2) := by decide +kernel
theorem dX12_number_109 : decode cX12_number 109 = .ok (.iconst 3, 1) := by decide +kernel
theorem dX12_number_110 : decode cX12_number 110 = .ok (.if_icmp .le 11, 3) := by decide +kernel
theorem dX12_number_113 : decode cX12_number 113 = .ok (.aload_n 0, 1) := by decide +kernel
theorem dX12_number_114 : decode cX12_number 114 = .ok (.iconst 1, 1) := by decide +kernel
theorem dX12_number_115 : decode cX12_number 115 = .ok (.iload_n 1, 1) := by decide +kernel
theorem dX12_number_116 : decode cX12_number 116 = .ok (.invokevirtual 155, 3) := by decide +kernel
theorem dX12_number_119 : decode cX12_number 119 = .ok (.iload_n 2, 1) := by decide +kernel
theorem dX12_number_120 : decode cX12_number 120 = .ok (.ireturn, 1) := by decide +kernel
theorem dX12_number_121 : decode cX12_number 121 = .ok (.aload_n 0, 1) := by decide +kernel
theorem dX12_number_122 : decode cX12_number 122 = .ok (.iload 6, 2) := by decide +kernel
theorem dX12_number_124 : decode cX12_number 124 = .ok (.ifCond .le 7, 3) := by decide +kernel
theorem dX12_number_127 : decode cX12_number 127 = .ok (.iconst 2, 1) := by decide +kernel
theorem dX12_number_128 : decode cX12_number 128 = .ok (.goto 4, 3) := by decide +kernel
theorem dX12_number_131 : decode cX12_number 131 = .ok (.iconst 1, 1) := by decide +kernel
theorem dX12_number_132 : decode cX12_number 132 = .ok (.iload_n 1, 1) := by decide +kernel
theorem dX12_number_133 : decode cX12_number 133 = .ok (.lload_n 3, 1) := by decide +kernel
theorem dX12_number_134 : decode cX12_number 134 = .ok (.invokevirtual 159, 3) := by decide +kernel
theorem dX12_number_137 : decode cX12_number 137 = .ok (.aload_n 0, 1) := by decide +kernel
theorem dX12_number_138 : decode cX12_number 138 = .ok (.getfield 23, 3) := by decide +kernel
theorem dX12_number_141 : decode cX12_number 141 = .ok (.aload_n 0, 1) := by decide +kernel
theorem dX12_number_142 : decode cX12_number 142 = .ok (.getfield 144, 3) := by decide +kernel
theorem dX12_number_145 : decode cX12_number 145 = .ok (.iconst 1, 1) := by decide +kernel
theorem dX12_number_146 : decode cX12_number 146 = .ok (.isub, 1) := by decide +kernel
theorem dX12_number_147 : decode cX12_number 147 = .ok (.iload 6, 2) := by decide +kernel
theorem dX12_number_149 : decode cX12_number 149 = .ok (.iastore, 1) := by decide +kernel
theorem dX12_number_150 : decode cX12_number 150 = .ok (.iload_n 2, 1) := by decide +kernel
theorem dX12_number_151 : decode cX12_number 151 = .ok (.ireturn, 1) := by decide +kernel
theorem dX12_name_0 : decode cX12_name 0 = .ok (.iload_n 1, 1) := by decide +kernel
theorem dX12_name_1 : decode cX12_name 1 = .ok (.istore_n 2, 1) := by decide +kernel
theorem dX12_name_2 : decode cX12_name 2 = .ok (.lconst 0, 1) := by decide +kernel
theorem dX12_name_3 : decode cX12_name 3 = .ok (.lstore_n 3, 1) := by decide +kernel
theorem dX12_name_4 : decode cX12_name 4 = .ok (.aload_n 0, 1) := by decide +kernel
theorem dX12_name_5 : decode cX12_name 5 = .ok (.iload_n 2, 1) := by decide +kernel
theorem dX12_name_6 : decode cX12_name 6 = .ok (.invokevirtual 163, 3) := by decide +kernel
theorem dX12_name_9 : decode cX12_name 9 = .ok (.ifCond .eq 40, 3) := by decide +kernel
theorem dX12_name_12 : decode cX12_name 12 = .ok (.iload_n 2, 1) := by decide +kernel
theorem dX12_name_13 : decode cX12_name 13 = .ok (.iload_n 1, 1) := by decide +kernel
theorem dX12_name_14 : decode cX12_name 14 = .ok (.isub, 1) := by decide +kernel
theorem dX12_name_15 : decode cX12_name 15 = .ok (.bipush 6, 2) := by decide +kernel
theorem dX12_name_17 : decode cX12_name 17 = .ok (.if_icmp .ge 24, 3) := by decide +kernel
theorem dX12_name_20 : decode cX12_name 20 = .ok (.lload_n 3, 1) := by decide +kernel
theorem dX12_name_21 : decode cX12_name 21 = .ok (.ldc2_w 166, 3) := by decide +kernel
theorem dX12_name_24 : decode cX12_name 24 = .ok (.lmul, 1) := by decide +kernel
theorem dX12_name_25 : decode cX12_name 25 = .ok (.aload_n 0, 1) := by decide +kernel
theorem dX12_name_26 : decode cX12_name 26 = .ok (.iload_n 2, 1) := by decide +kernel
theorem dX12_name_27 : decode cX12_name 27 = .ok (.invokevirtual 134, 3) := by decide +kernel
theorem dX12_name_30 : decode cX12_name 30 = .ok (.i2l, 1) := by decide +kernel
theorem dX12_name_31 : decode cX12_name 31 = .ok (.ladd, 1) := by decide +kernel
theorem dX12_name_32 : decode cX12_name 32 = .ok (.ldc2_w 168, 3) := by decide +kernel
theorem dX12_name_35 : decode cX12_name 35 = .ok (.lsub, 1) := by decide +kernel
theorem dX12_name_36 : decode cX12_name 36 = .ok (.lconst 1, 1) := by decide +kernel
theorem dX12_name_37 : decode cX12_name 37 = .ok (.ladd, 1) := by decide +kernel
theorem dX12_name_38 : decode cX12_name 38 = .ok (.goto 4, 3) := by decide +kernel
theorem dX12_name_41 : decode cX12_name 41 = .ok (.lload_n 3, 1) := by decide +kernel
theorem dX12_name_42 : decode cX12_name 42 = .ok (.lstore_n 3, 1) := by decide +kernel
theorem dX12_name_43 : decode cX12_name 43 = .ok (.iinc 2 1, 3) := by decide +kernel
theorem dX12_name_46 : decode cX12_name 46 = .ok (.goto (-42), 3) := by decide +kernel
theorem dX12_name_49 : decode cX12_name 49 = .ok (.iload_n 2, 1) := by decide +kernel
theorem dX12_name_50 : decode cX12_name 50 = .ok (.iload_n 1, 1) := by decide +kernel
theorem dX12_name_51 : decode cX12_name 51 = .ok (.isub, 1) := by decide +kernel
theorem dX12_name_52 : decode cX12_name 52 = .ok (.iconst 5, 1) := by decide +kernel
theorem dX12_name_53 : decode cX12_name 53 = .ok (.if_icmp .le 12, 3) := by decide +kernel
theorem dX12_name_56 : decode cX12_name 56 = .ok (.aload_n 0, 1) := by decide +kernel
theorem dX12_name_57 : decode cX12_name 57 = .ok (.iconst 1, 1) := by decide +kernel
theorem dX12_name_58 : decode cX12_name 58 = .ok (.iload_n 1, 1) := by decide +kernel
theorem dX12_name_59 : decode cX12_name 59 = .ok (.invokevirtual 155, 3) := by decide +kernel
theorem dX12_name_62 : decode cX12_name 62 = .ok (.goto 10, 3) := by decide +kernel
theorem dX12_name_65 : decode cX12_name 65 = .ok (.aload_n 0, 1) := by decide +kernel
theorem dX12_name_66 : decode cX12_name 66 = .ok (.iconst 3, 1) := by decide +kernel
theorem dX12_name_67 : decode cX12_name 67 = .ok (.iload_n 1, 1) := by decide +kernel
theorem dX12_name_68 : decode cX12_name 68 = .ok (.lload_n 3, 1) := by decide +kernel
theorem dX12_name_69 : decode cX12_name 69 = .ok (.invokevirtual 159, 3) := by decide +kernel
theorem dX12_name_72 : decode cX12_name 72 = .ok (.iload_n 2, 1) := by decide +kernel
theorem dX12_name_73 : decode cX12_name 73 = .ok (.ireturn, 1) := by decide +kernel
theorem dX12_quoted_0 : decode cX12_quoted 0 = .ok (.iload_n 1, 1) := by decide +kernel
theorem dX12_quoted_1 : decode cX12_quoted 1 = .ok (.iconst 1, 1) := by decide +kernel
theorem dX12_quoted_2 : decode cX12_quoted 2 = .ok (.iadd, 1) := by decide +kernel
theorem dX12_quoted_3 : decode cX12_quoted 3 = .ok (.istore_n 2, 1) := by decide +kernel
theorem dX12_quoted_4 : decode cX12_quoted 4 = .ok (.lconst 0, 1) := by decide +kernel
theorem dX12_quoted_5 : decode cX12_quoted 5 = .ok (.lstore_n 3, 1) := by decide +kernel
theorem dX12_quoted_6 : decode cX12_quoted 6 = .ok (.iload_n 2, 1) := by decide +kernel
theorem dX12_quoted_7 : decode cX12_quoted 7 = .ok (.aload_n 0, 1) := by decide +kernel
theorem dX12_quoted_8 : decode cX12_quoted 8 = .ok (.getfield 131, 3) := by decide +kernel
theorem dX12_quoted_11 : decode cX12_quoted 11 = .ok (.if_icmp .ge 45, 3) := by decide +kernel
theorem dX12_quoted_14 : decode cX12_quoted 14 = .ok (.aload_n 0, 1) := by decide +kernel
theorem dX12_quoted_15 : decode cX12_quoted 15 = .ok (.iload_n 2, 1) := by decide +kernel
theorem dX12_quoted_16 : decode cX12_quoted 16 = .ok (.invokevirtual 134, 3) := by decide +kernel
theorem dX12_quoted_19 : decode cX12_quoted 19 = .ok (.bipush 39, 2) := by decide +kernel
theorem dX12_quoted_21 : decode cX12_quoted 21 = .ok (.if_icmp .eq 35, 3) := by decide +kernel
theorem dX12_quoted_24 : decode cX12_quoted 24 = .ok (.iload_n 2, 1) := by decide +kernel
theorem dX12_quoted_25 : decode cX12_quoted 25 = .ok (.iload_n 1, 1) := by decide +kernel
theorem dX12_quoted_26 : decode cX12_quoted 26 = .ok (.isub, 1) := by decide +kernel
theorem dX12_quoted_27 : decode cX12_quoted 27 = .ok (.bipush 8, 2) := by decide +kernel
theorem dX12_quoted_29 : decode cX12_quoted 29 = .ok (.if_icmp .gt 27, 3) := by decide +kernel
theorem dX12_quoted_32 : decode cX12_quoted 32 = .ok (.lload_n 3, 1) := by decide +kernel
theorem dX12_quoted_33 : decode cX12_quoted 33 = .ok (.aload_n 0, 1) := by decide +kernel
theorem dX12_quoted_34 : decode cX12_quoted 34 = .ok (.iload_n 2, 1) := by decide +kernel
theorem dX12_quoted_35 : decode cX12_quoted 35 = .ok (.invokevirtual 134, 3) := by decide +kernel
theorem dX12_quoted_38 : decode cX12_quoted 38 = .ok (.i2l, 1) := by decide +kernel
theorem dX12_quoted_39 : decode cX12_quoted 39 = .ok (.bipush 7, 2) := by decide +kernel
theorem dX12_quoted_41 : decode cX12_quoted 41 = .ok (.iload_n 2, 1) := by decide +kernel
theorem dX12_quoted_42 : decode cX12_quoted 42 = .ok (.iload_n 1, 1) := by decide +kernel
theorem dX12_quoted_43 : decode cX12_quoted 43 = .ok (.isub, 1) := by decide +kernel
theorem dX12_quoted_44 : decode cX12_quoted 44 = .ok (.iconst 1, 1) := by decide +kernel
theorem dX12_quoted_45 : decode cX12_quoted 45 = .ok (.isub, 1) := by decide +kernel
theorem dX12_quoted_46 : decode cX12_quoted 46 = .ok (.imul, 1) := by decide +kernel
theorem dX12_quoted_47 : decode cX12_quoted 47 = .ok (.lshl, 1) := by decide +kernel
theorem dX12_quoted_48 : decode cX12_quoted 48 = .ok (.lor, 1) := by decide +kernel
theorem dX12_quoted_49 : decode cX12_quoted 49 = .ok (.lstore_n 3, 1) := by decide +kernel
theorem dX12_quoted_50 : decode cX12_quoted 50 = .ok (.iinc 2 1, 3) := by decide +kernel
theorem dX12_quoted_53 : decode cX12_quoted 53 = .ok (.goto (-47), 3) := by decide +kernel
theorem dX12_quoted_56 : decode cX12_quoted 56 = .ok (.aload_n 0, 1) := by decide +kernel
theorem dX12_quoted_57 : decode cX12_quoted 57 = .ok (.iload_n 2, 1) := by decide +kernel
theorem dX12_quoted_58 : decode cX12_quoted 58 = .ok (.invokevirtual 134, 3) := by decide +kernel
theorem dX12_quoted_61 : decode cX12_quoted 61 = .ok (.bipush 39, 2) := by decide +kernel
theorem dX12_quoted_63 : decode cX12_quoted 63 = .ok (.if_icmp .eq 14, 3) := by decide +kernel
theorem dX12_quoted_66 : decode cX12_quoted 66 = .ok (.aload_n 0, 1) := by decide +kernel
theorem dX12_quoted_67 : decode cX12_quoted 67 = .ok (.iconst 1, 1) := by decide +kernel
theorem dX12_quoted_68 : decode cX12_quoted 68 = .ok (.iload_n 1, 1) := by decide +kernel
theorem dX12_quoted_69 : decode cX12_quoted 69 = .ok (.invokevirtual 155, 3) := by decide +kernel
theorem dX12_quoted_72 : decode cX12_quoted 72 = .ok (.aload_n 0, 1) := by decide +kernel
theorem dX12_quoted_73 : decode cX12_quoted 73 = .ok (.getfield 131, 3) := by decide +kernel
theorem dX12_quoted_76 : decode cX12_quoted 76 = .ok (.ireturn, 1) := by decide +kernel
theorem dX12_quoted_77 : decode cX12_quoted 77 = .ok (.aload_n 0, 1) := by decide +kernel
theorem dX12_quoted_78 : decode cX12_quoted 78 = .ok (.iconst 4, 1) := by decide +kernel
theorem dX12_quoted_79 : decode cX12_quoted 79 = .ok (.iload_n 1, 1) := by decide +kernel
theorem dX12_quoted_80 : decode cX12_quoted 80 = .ok (.lload_n 3, 1) := by decide +kernel
theorem dX12_quoted_81 : decode cX12_quoted 81 = .ok (.iload_n 2, 1) := by decide +kernel
theorem dX12_quoted_82 : decode cX12_quoted 82 = .ok (.iload_n 1, 1) := by decide +kernel
theorem dX12_quoted_83 : decode cX12_quoted 83 = .ok (.isub, 1) := by decide +kernel
theorem dX12_quoted_84 : decode cX12_quoted 84 = .ok (.iconst 1, 1) := by decide +kernel
theorem dX12_quoted_85 : decode cX12_quoted 85 = .ok (.isub, 1) := by decide +kernel
theorem dX12_quoted_86 : decode cX12_quoted 86 = .ok (.i2l, 1) := by decide +kernel
theorem dX12_quoted_87 : decode cX12_quoted 87 = .ok (.bipush 56, 2) := by decide +kernel
theorem dX12_quoted_89 : decode cX12_quoted 89 = .ok (.lshl, 1) := by decide +kernel
theorem dX12_quoted_90 : decode cX12_quoted 90 = .ok (.lor, 1) := by decide +kernel
theorem dX12_quoted_91 : decode cX12_quoted 91 = .ok (.invokevirtual 159, 3) := by decide +kernel
theorem dX12_quoted_94 : decode cX12_quoted 94 = .ok (.iload_n 2, 1) := by decide +kernel
theorem dX12_quoted_95 : decode cX12_quoted 95 = .ok (.iconst 1, 1) := by decide +kernel
theorem dX12_quoted_96 : decode cX12_quoted 96 = .ok (.iadd, 1) := by decide +kernel
theorem dX12_quoted_97 : decode cX12_quoted 97 = .ok (.ireturn, 1) := by decide +kernel
theorem dX12_single_0 : decode cX12_single 0 = .ok (.iload_n 0, 1) := by decide +kernel
theorem dX12_single_1 : decode cX12_single 1 = .ok (.bipush 43, 2) := by decide +kernel
theorem dX12_single_3 : decode cX12_single 3 = .ok (.if_icmp .eq 93, 3) := by decide +kernel
theorem dX12_single_6 : decode cX12_single 6 = .ok (.iload_n 0, 1) := by decide +kernel
theorem dX12_single_7 : decode cX12_single 7 = .ok (.bipush 45, 2) := by decide +kernel
theorem dX12_single_9 : decode cX12_single 9 = .ok (.if_icmp .eq 87, 3) := by decide +kernel
theorem dX12_single_12 : decode cX12_single 12 = .ok (.iload_n 0, 1) := by decide +kernel
theorem dX12_single_13 : decode cX12_single 13 = .ok (.bipush 42, 2) := by decide +kernel
theorem dX12_single_15 : decode cX12_single 15 = .ok (.if_icmp .eq 81, 3) := by decide +kernel
theorem dX12_single_18 : decode cX12_single 18 = .ok (.iload_n 0, 1) := by decide +kernel
theorem dX12_single_19 : decode cX12_single 19 = .ok (.bipush 47, 2) := by decide +kernel
theorem dX12_single_21 : decode cX12_single 21 = .ok (.if_icmp .eq 75, 3) := by decide +kernel
theorem dX12_single_24 : decode cX12_single 24 = .ok (.iload_n 0, 1) := by decide +kernel
theorem dX12_single_25 : decode cX12_single 25 = .ok (.bipush 37, 2) := by decide +kernel
theorem dX12_single_27 : decode cX12_single 27 = .ok (.if_icmp .eq 69, 3) := by decide +kernel
theorem dX12_single_30 : decode cX12_single 30 = .ok (.iload_n 0, 1) := by decide +kernel
theorem dX12_single_31 : decode cX12_single 31 = .ok (.bipush 60, 2) := by decide +kernel
theorem dX12_single_33 : decode cX12_single 33 = .ok (.if_icmp .eq 63, 3) := by decide +kernel
theorem dX12_single_36 : decode cX12_single 36 = .ok (.iload_n 0, 1) := by decide +kernel
theorem dX12_single_37 : decode cX12_single 37 = .ok (.bipush 62, 2) := by decide +kernel
theorem dX12_single_39 : decode cX12_single 39 = .ok (.if_icmp .eq 57, 3) := by decide +kernel
theorem dX12_single_42 : decode cX12_single 42 = .ok (.iload_n 0, 1) := by decide +kernel
theorem dX12_single_43 : decode cX12_single 43 = .ok (.bipush 33, 2) := by decide +kernel
theorem dX12_single_45 : decode cX12_single 45 = .ok (.if_icmp .eq 51, 3) := by decide +kernel
theorem dX12_single_48 : decode cX12_single 48 = .ok (.iload_n 0, 1) := by decide +kernel
theorem dX12_single_49 : decode cX12_single 49 = .ok (.bipush 63, 2) := by decide +kernel
theorem dX12_single_51 : decode cX12_single 51 = .ok (.if_icmp .eq 45, 3) := by decide +kernel
theorem dX12_single_54 : decode cX12_single 54 = .ok (.iload_n 0, 1) := by decide +kernel
theorem dX12_single_55 : decode cX12_single 55 = .ok (.bipush 58, 2) := by decide +kernel
theorem dX12_single_57 : decode cX12_single 57 = .ok (.if_icmp .eq 39, 3) := by decide +kernel
theorem dX12_single_60 : decode cX12_single 60 = .ok (.iload_n 0, 1) := by decide +kernel
theorem dX12_single_61 : decode cX12_single 61 = .ok (.bipush 46, 2) := by decide +kernel
theorem dX12_single_63 : decode cX12_single 63 = .ok (.if_icmp .eq 33, 3) := by decide +kernel
theorem dX12_single_66 : decode cX12_single 66 = .ok (.iload_n 0, 1) := by decide +kernel
theorem dX12_single_67 : decode cX12_single 67 = .ok (.bipush 40, 2) := by decide +kernel
theorem dX12_single_69 : decode cX12_single 69 = .ok (.if_icmp .eq 27, 3) := by decide +kernel
theorem dX12_single_72 : decode cX12_single 72 = .ok (.iload_n 0, 1) := by decide +kernel
theorem dX12_single_73 : decode cX12_single 73 = .ok (.bipush 41, 2) := by decide +kernel
theorem dX12_single_75 : decode cX12_single 75 = .ok (.if_icmp .eq 21, 3) := by decide +kernel
theorem dX12_single_78 : decode cX12_single 78 = .ok (.iload_n 0, 1) := by decide +kernel
theorem dX12_single_79 : decode cX12_single 79 = .ok (.bipush 44, 2) := by decide +kernel
theorem dX12_single_81 : decode cX12_single 81 = .ok (.if_icmp .eq 15, 3) := by decide +kernel
theorem dX12_single_84 : decode cX12_single 84 = .ok (.iload_n 0, 1) := by decide +kernel
theorem dX12_single_85 : decode cX12_single 85 = .ok (.bipush 35, 2) := by decide +kernel
theorem dX12_single_87 : decode cX12_single 87 = .ok (.if_icmp .eq 9, 3) := by decide +kernel
theorem dX12_single_90 : decode cX12_single 90 = .ok (.iload_n 0, 1) := by decide +kernel
theorem dX12_single_91 : decode cX12_single 91 = .ok (.bipush 61, 2) := by decide +kernel
theorem dX12_single_93 : decode cX12_single 93 = .ok (.if_icmp .ne 7, 3) := by decide +kernel
theorem dX12_single_96 : decode cX12_single 96 = .ok (.iconst 1, 1) := by decide +kernel
theorem dX12_single_97 : decode cX12_single 97 = .ok (.goto 4, 3) := by decide +kernel
theorem dX12_single_100 : decode cX12_single 100 = .ok (.iconst 0, 1) := by decide +kernel
theorem dX12_single_101 : decode cX12_single 101 = .ok (.ireturn, 1) := by decide +kernel
theorem dX12_twice_0 : decode cX12_twice 0 = .ok (.iload_n 1, 1) := by decide +kernel
theorem dX12_twice_1 : decode cX12_twice 1 = .ok (.bipush 61, 2) := by decide +kernel
theorem dX12_twice_3 : decode cX12_twice 3 = .ok (.if_icmp .ne 27, 3) := by decide +kernel
theorem dX12_twice_6 : decode cX12_twice 6 = .ok (.iload_n 0, 1) := by decide +kernel
theorem dX12_twice_7 : decode cX12_twice 7 = .ok (.bipush 60, 2) := by decide +kernel
theorem dX12_twice_9 : decode cX12_twice 9 = .ok (.if_icmp .eq 63, 3) := by decide +kernel
theorem dX12_twice_12 : decode cX12_twice 12 = .ok (.iload_n 0, 1) := by decide +kernel
theorem dX12_twice_13 : decode cX12_twice 13 = .ok (.bipush 62, 2) := by decide +kernel
theorem dX12_twice_15 : decode cX12_twice 15 = .ok (.if_icmp .eq 57, 3) := by decide +kernel
theorem dX12_twice_18 : decode cX12_twice 18 = .ok (.iload_n 0, 1) := by decide +kernel
theorem dX12_twice_19 : decode cX12_twice 19 = .ok (.bipush 61, 2) := by decide +kernel
theorem dX12_twice_21 : decode cX12_twice 21 = .ok (.if_icmp .eq 51, 3) := by decide +kernel
theorem dX12_twice_24 : decode cX12_twice 24 = .ok (.iload_n 0, 1) := by decide +kernel
theorem dX12_twice_25 : decode cX12_twice 25 = .ok (.bipush 33, 2) := by decide +kernel
theorem dX12_twice_27 : decode cX12_twice 27 = .ok (.if_icmp .eq 45, 3) := by decide +kernel
theorem dX12_twice_30 : decode cX12_twice 30 = .ok (.iload_n 0, 1) := by decide +kernel
theorem dX12_twice_31 : decode cX12_twice 31 = .ok (.bipush 38, 2) := by decide +kernel
theorem dX12_twice_33 : decode cX12_twice 33 = .ok (.if_icmp .ne 9, 3) := by decide +kernel
theorem dX12_twice_36 : decode cX12_twice 36 = .ok (.iload_n 1, 1) := by decide +kernel
theorem dX12_twice_37 : decode cX12_twice 37 = .ok (.bipush 38, 2) := by decide +kernel
theorem dX12_twice_39 : decode cX12_twice 39 = .ok (.if_icmp .eq 33, 3) := by decide +kernel
theorem dX12_twice_42 : decode cX12_twice 42 = .ok (.iload_n 0, 1) := by decide +kernel
theorem dX12_twice_43 : decode cX12_twice 43 = .ok (.bipush 124, 2) := by decide +kernel
theorem dX12_twice_45 : decode cX12_twice 45 = .ok (.if_icmp .ne 9, 3) := by decide +kernel
theorem dX12_twice_48 : decode cX12_twice 48 = .ok (.iload_n 1, 1) := by decide +kernel
theorem dX12_twice_49 : decode cX12_twice 49 = .ok (.bipush 124, 2) := by decide +kernel
theorem dX12_twice_51 : decode cX12_twice 51 = .ok (.if_icmp .eq 21, 3) := by decide +kernel
theorem dX12_twice_54 : decode cX12_twice 54 = .ok (.iload_n 0, 1) := by decide +kernel
theorem dX12_twice_55 : decode cX12_twice 55 = .ok (.bipush 63, 2) := by decide +kernel
theorem dX12_twice_57 : decode cX12_twice 57 = .ok (.if_icmp .ne 19, 3) := by decide +kernel
theorem dX12_twice_60 : decode cX12_twice 60 = .ok (.iload_n 1, 1) := by decide +kernel
theorem dX12_twice_61 : decode cX12_twice 61 = .ok (.bipush 58, 2) := by decide +kernel
theorem dX12_twice_63 : decode cX12_twice 63 = .ok (.if_icmp .eq 9, 3) := by decide +kernel
theorem dX12_twice_66 : decode cX12_twice 66 = .ok (.iload_n 1, 1) := by decide +kernel
theorem dX12_twice_67 : decode cX12_twice 67 = .ok (.bipush 46, 2) := by decide +kernel
theorem dX12_twice_69 : decode cX12_twice 69 = .ok (.if_icmp .ne 7, 3) := by decide +kernel
theorem dX12_twice_72 : decode cX12_twice 72 = .ok (.iconst 1, 1) := by decide +kernel
theorem dX12_twice_73 : decode cX12_twice 73 = .ok (.goto 4, 3) := by decide +kernel
theorem dX12_twice_76 : decode cX12_twice 76 = .ok (.iconst 0, 1) := by decide +kernel
theorem dX12_twice_77 : decode cX12_twice 77 = .ok (.ireturn, 1) := by decide +kernel
theorem dX12_sign_0 : decode cX12_sign 0 = .ok (.aload_n 0, 1) := by decide +kernel
theorem dX12_sign_1 : decode cX12_sign 1 = .ok (.iload_n 1, 1) := by decide +kernel
theorem dX12_sign_2 : decode cX12_sign 2 = .ok (.invokevirtual 134, 3) := by decide +kernel
theorem dX12_sign_5 : decode cX12_sign 5 = .ok (.istore_n 2, 1) := by decide +kernel
theorem dX12_sign_6 : decode cX12_sign 6 = .ok (.iload_n 2, 1) := by decide +kernel
theorem dX12_sign_7 : decode cX12_sign 7 = .ok (.aload_n 0, 1) := by decide +kernel
theorem dX12_sign_8 : decode cX12_sign 8 = .ok (.iload_n 1, 1) := by decide +kernel
theorem dX12_sign_9 : decode cX12_sign 9 = .ok (.iconst 1, 1) := by decide +kernel
theorem dX12_sign_10 : decode cX12_sign 10 = .ok (.iadd, 1) := by decide +kernel
theorem dX12_sign_11 : decode cX12_sign 11 = .ok (.invokevirtual 134, 3) := by decide +kernel
theorem dX12_sign_14 : decode cX12_sign 14 = .ok (.invokestatic 170, 3) := by decide +kernel
theorem dX12_sign_17 : decode cX12_sign 17 = .ok (.ifCond .eq 28, 3) := by decide +kernel
theorem dX12_sign_20 : decode cX12_sign 20 = .ok (.aload_n 0, 1) := by decide +kernel
theorem dX12_sign_21 : decode cX12_sign 21 = .ok (.iconst 5, 1) := by decide +kernel
theorem dX12_sign_22 : decode cX12_sign 22 = .ok (.iload_n 1, 1) := by decide +kernel
theorem dX12_sign_23 : decode cX12_sign 23 = .ok (.ldc2_w 174, 3) := by decide +kernel
theorem dX12_sign_26 : decode cX12_sign 26 = .ok (.iload_n 2, 1) := by decide +kernel
theorem dX12_sign_27 : decode cX12_sign 27 = .ok (.i2l, 1) := by decide +kernel
theorem dX12_sign_28 : decode cX12_sign 28 = .ok (.lmul, 1) := by decide +kernel
theorem dX12_sign_29 : decode cX12_sign 29 = .ok (.aload_n 0, 1) := by decide +kernel
theorem dX12_sign_30 : decode cX12_sign 30 = .ok (.iload_n 1, 1) := by decide +kernel
theorem dX12_sign_31 : decode cX12_sign 31 = .ok (.iconst 1, 1) := by decide +kernel
theorem dX12_sign_32 : decode cX12_sign 32 = .ok (.iadd, 1) := by decide +kernel
theorem dX12_sign_33 : decode cX12_sign 33 = .ok (.invokevirtual 134, 3) := by decide +kernel
theorem dX12_sign_36 : decode cX12_sign 36 = .ok (.i2l, 1) := by decide +kernel
theorem dX12_sign_37 : decode cX12_sign 37 = .ok (.ladd, 1) := by decide +kernel
theorem dX12_sign_38 : decode cX12_sign 38 = .ok (.invokevirtual 159, 3) := by decide +kernel
theorem dX12_sign_41 : decode cX12_sign 41 = .ok (.iload_n 1, 1) := by decide +kernel
theorem dX12_sign_42 : decode cX12_sign 42 = .ok (.iconst 2, 1) := by decide +kernel
theorem dX12_sign_43 : decode cX12_sign 43 = .ok (.iadd, 1) := by decide +kernel
theorem dX12_sign_44 : decode cX12_sign 44 = .ok (.ireturn, 1) := by decide +kernel
theorem dX12_sign_45 : decode cX12_sign 45 = .ok (.iload_n 2, 1) := by decide +kernel
theorem dX12_sign_46 : decode cX12_sign 46 = .ok (.invokestatic 176, 3) := by decide +kernel
theorem dX12_sign_49 : decode cX12_sign 49 = .ok (.ifCond .eq 14, 3) := by decide +kernel
theorem dX12_sign_52 : decode cX12_sign 52 = .ok (.aload_n 0, 1) := by decide +kernel
theorem dX12_sign_53 : decode cX12_sign 53 = .ok (.iconst 5, 1) := by decide +kernel
theorem dX12_sign_54 : decode cX12_sign 54 = .ok (.iload_n 1, 1) := by decide +kernel
theorem dX12_sign_55 : decode cX12_sign 55 = .ok (.iload_n 2, 1) := by decide +kernel
theorem dX12_sign_56 : decode cX12_sign 56 = .ok (.i2l, 1) := by decide +kernel
theorem dX12_sign_57 : decode cX12_sign 57 = .ok (.invokevirtual 159, 3) := by decide +kernel
theorem dX12_sign_60 : decode cX12_sign 60 = .ok (.goto 9, 3) := by decide +kernel
theorem dX12_sign_63 : decode cX12_sign 63 = .ok (.aload_n 0, 1) := by decide +kernel
theorem dX12_sign_64 : decode cX12_sign 64 = .ok (.iconst 1, 1) := by decide +kernel
theorem dX12_sign_65 : decode cX12_sign 65 = .ok (.iload_n 1, 1) := by decide +kernel
theorem dX12_sign_66 : decode cX12_sign 66 = .ok (.invokevirtual 155, 3) := by decide +kernel
theorem dX12_sign_69 : decode cX12_sign 69 = .ok (.iload_n 1, 1) := by decide +kernel
theorem dX12_sign_70 : decode cX12_sign 70 = .ok (.iconst 1, 1) := by decide +kernel
theorem dX12_sign_71 : decode cX12_sign 71 = .ok (.iadd, 1) := by decide +kernel
theorem dX12_sign_72 : decode cX12_sign 72 = .ok (.ireturn, 1) := by decide +kernel
theorem dX12_cut_0 : decode cX12_cut 0 = .ok (.aload_n 0, 1) := by decide +kernel
theorem dX12_cut_1 : decode cX12_cut 1 = .ok (.iconst 0, 1) := by decide +kernel
theorem dX12_cut_2 : decode cX12_cut 2 = .ok (.putfield 144, 3) := by decide +kernel
theorem dX12_cut_5 : decode cX12_cut 5 = .ok (.iconst 0, 1) := by decide +kernel
theorem dX12_cut_6 : decode cX12_cut 6 = .ok (.istore_n 1, 1) := by decide +kernel
theorem dX12_cut_7 : decode cX12_cut 7 = .ok (.iload_n 1, 1) := by decide +kernel
theorem dX12_cut_8 : decode cX12_cut 8 = .ok (.aload_n 0, 1) := by decide +kernel
theorem dX12_cut_9 : decode cX12_cut 9 = .ok (.getfield 131, 3) := by decide +kernel
theorem dX12_cut_12 : decode cX12_cut 12 = .ok (.if_icmp .ge 85, 3) := by decide +kernel
theorem dX12_cut_15 : decode cX12_cut 15 = .ok (.aload_n 0, 1) := by decide +kernel
theorem dX12_cut_16 : decode cX12_cut 16 = .ok (.getfield 138, 3) := by decide +kernel
theorem dX12_cut_19 : decode cX12_cut 19 = .ok (.ifCond .ne 78, 3) := by decide +kernel
theorem dX12_cut_22 : decode cX12_cut 22 = .ok (.aload_n 0, 1) := by decide +kernel
theorem dX12_cut_23 : decode cX12_cut 23 = .ok (.iload_n 1, 1) := by decide +kernel
theorem dX12_cut_24 : decode cX12_cut 24 = .ok (.invokevirtual 134, 3) := by decide +kernel
theorem dX12_cut_27 : decode cX12_cut 27 = .ok (.bipush 32, 2) := by decide +kernel
theorem dX12_cut_29 : decode cX12_cut 29 = .ok (.if_icmp .ne 9, 3) := by decide +kernel
theorem dX12_cut_32 : decode cX12_cut 32 = .ok (.iinc 1 1, 3) := by decide +kernel
theorem dX12_cut_35 : decode cX12_cut 35 = .ok (.goto (-28), 3) := by decide +kernel
theorem dX12_cut_38 : decode cX12_cut 38 = .ok (.aload_n 0, 1) := by decide +kernel
theorem dX12_cut_39 : decode cX12_cut 39 = .ok (.iload_n 1, 1) := by decide +kernel
theorem dX12_cut_40 : decode cX12_cut 40 = .ok (.invokevirtual 147, 3) := by decide +kernel
theorem dX12_cut_43 : decode cX12_cut 43 = .ok (.ifCond .eq 11, 3) := by decide +kernel
theorem dX12_cut_46 : decode cX12_cut 46 = .ok (.aload_n 0, 1) := by decide +kernel
theorem dX12_cut_47 : decode cX12_cut 47 = .ok (.iload_n 1, 1) := by decide +kernel
theorem dX12_cut_48 : decode cX12_cut 48 = .ok (.invokevirtual 179, 3) := by decide +kernel
theorem dX12_cut_51 : decode cX12_cut 51 = .ok (.goto 42, 3) := by decide +kernel
theorem dX12_cut_54 : decode cX12_cut 54 = .ok (.aload_n 0, 1) := by decide +kernel
theorem dX12_cut_55 : decode cX12_cut 55 = .ok (.iload_n 1, 1) := by decide +kernel
theorem dX12_cut_56 : decode cX12_cut 56 = .ok (.invokevirtual 163, 3) := by decide +kernel
theorem dX12_cut_59 : decode cX12_cut 59 = .ok (.ifCond .eq 11, 3) := by decide +kernel
theorem dX12_cut_62 : decode cX12_cut 62 = .ok (.aload_n 0, 1) := by decide +kernel
theorem dX12_cut_63 : decode cX12_cut 63 = .ok (.iload_n 1, 1) := by decide +kernel
theorem dX12_cut_64 : decode cX12_cut 64 = .ok (.invokevirtual 182, 3) := by decide +kernel
theorem dX12_cut_67 : decode cX12_cut 67 = .ok (.goto 26, 3) := by decide +kernel
theorem dX12_cut_70 : decode cX12_cut 70 = .ok (.aload_n 0, 1) := by decide +kernel
theorem dX12_cut_71 : decode cX12_cut 71 = .ok (.iload_n 1, 1) := by decide +kernel
theorem dX12_cut_72 : decode cX12_cut 72 = .ok (.invokevirtual 134, 3) := by decide +kernel
theorem dX12_cut_75 : decode cX12_cut 75 = .ok (.bipush 39, 2) := by decide +kernel
theorem dX12_cut_77 : decode cX12_cut 77 = .ok (.if_icmp .ne 11, 3) := by decide +kernel
theorem dX12_cut_80 : decode cX12_cut 80 = .ok (.aload_n 0, 1) := by decide +kernel
theorem dX12_cut_81 : decode cX12_cut 81 = .ok (.iload_n 1, 1) := by decide +kernel
theorem dX12_cut_82 : decode cX12_cut 82 = .ok (.invokevirtual 185, 3) := by decide +kernel
theorem dX12_cut_85 : decode cX12_cut 85 = .ok (.goto 8, 3) := by decide +kernel
theorem dX12_cut_88 : decode cX12_cut 88 = .ok (.aload_n 0, 1) := by decide +kernel
theorem dX12_cut_89 : decode cX12_cut 89 = .ok (.iload_n 1, 1) := by decide +kernel
theorem dX12_cut_90 : decode cX12_cut 90 = .ok (.invokevirtual 188, 3) := by decide +kernel
theorem dX12_cut_93 : decode cX12_cut 93 = .ok (.istore_n 1, 1) := by decide +kernel
theorem dX12_cut_94 : decode cX12_cut 94 = .ok (.goto (-87), 3) := by decide +kernel
theorem dX12_cut_97 : decode cX12_cut 97 = .ok (.aload_n 0, 1) := by decide +kernel
theorem dX12_cut_98 : decode cX12_cut 98 = .ok (.iconst 0, 1) := by decide +kernel
theorem dX12_cut_99 : decode cX12_cut 99 = .ok (.aload_n 0, 1) := by decide +kernel
theorem dX12_cut_100 : decode cX12_cut 100 = .ok (.getfield 131, 3) := by decide +kernel
theorem dX12_cut_103 : decode cX12_cut 103 = .ok (.lconst 0, 1) := by decide +kernel
theorem dX12_cut_104 : decode cX12_cut 104 = .ok (.invokevirtual 159, 3) := by decide +kernel
theorem dX12_cut_107 : decode cX12_cut 107 = .ok (.return_, 1) := by decide +kernel
abbrev vwCl : List vw_C := [(RJ0, TJ0, 4), (RJ4, TJ4, 4), (RX0, TX0, 2), (RX1, TX1, 7), (RX2, TX2, 3), (RX3, TX3, 3), (RX4, TX4, 8), (RX5, TX5, 8), (RX6, TX6, 4), (RX7, TX7, 6), (RX8, TX8, 8), (RX9, TX9, 3), (RX10, TX10, 5), (RX11, TX11, 9), (RX12, TX12, 60)]
