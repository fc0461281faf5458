def RX0 : String := "PhraseDesk$Converters"
def TX0 : u_T := fun k => match k with
  | 0 => ("PhraseDesk$Converters", "there", "[Z", true)
  | _ => ("PhraseDesk$Converters", "scratch", "Ljava/lang/StringBuilder;", true)
def RX1 : String := "PhraseDesk$Family"
def TX1 : u_T := fun k => match k with
  | 0 => ("PhraseDesk$Family", "number", "I", true)
  | 1 => ("PhraseDesk$Family", "kind", "I", true)
  | 2 => ("PhraseDesk$Family", "parent", "LPhraseDesk$Family;", true)
  | 3 => ("PhraseDesk$Family", "fields", "[LPhraseDesk$Field;", true)
  | 4 => ("PhraseDesk$Family", "fieldCount", "I", false)
  | 5 => ("PhraseDesk$Family", "routines", "[LPhraseDesk$Routine;", true)
  | _ => ("PhraseDesk$Family", "routineCount", "I", false)
def RX2 : String := "PhraseDesk$Field"
def TX2 : u_T := fun k => match k with
  | 0 => ("PhraseDesk$Field", "name", "I", true)
  | 1 => ("PhraseDesk$Field", "type", "I", true)
  | _ => ("PhraseDesk$Field", "slot", "I", true)
def RX3 : String := "PhraseDesk$Finder"
def TX3 : u_T := fun k => match k with
  | 0 => ("PhraseDesk$Finder", "candidates", "[LPhraseDesk$Routine;", true)
  | 1 => ("PhraseDesk$Finder", "count", "I", false)
  | _ => ("PhraseDesk$Finder", "failure", "I", false)
def RX4 : String := "PhraseDesk$Lexer"
def TX4 : u_T := fun k => match k with
  | 0 => ("PhraseDesk$Lexer", "letters", "[C", true)
  | 1 => ("PhraseDesk$Lexer", "length", "I", false)
  | 2 => ("PhraseDesk$Lexer", "kinds", "[I", true)
  | 3 => ("PhraseDesk$Lexer", "places", "[I", true)
  | 4 => ("PhraseDesk$Lexer", "names", "[I", true)
  | 5 => ("PhraseDesk$Lexer", "literals", "[LPhraseDesk$Value;", true)
  | 6 => ("PhraseDesk$Lexer", "count", "I", false)
  | _ => ("PhraseDesk$Lexer", "scratch", "Ljava/lang/StringBuilder;", true)
def RX5 : String := "PhraseDesk$Node"
def TX5 : u_T := fun k => match k with
  | 0 => ("PhraseDesk$Node", "op", "I", true)
  | 1 => ("PhraseDesk$Node", "name", "I", true)
  | 2 => ("PhraseDesk$Node", "literal", "LPhraseDesk$Value;", true)
  | 3 => ("PhraseDesk$Node", "one", "LPhraseDesk$Node;", true)
  | 4 => ("PhraseDesk$Node", "two", "LPhraseDesk$Node;", true)
  | 5 => ("PhraseDesk$Node", "three", "LPhraseDesk$Node;", true)
  | 6 => ("PhraseDesk$Node", "lenient", "Z", false)
  | _ => ("PhraseDesk$Node", "bracketed", "Z", false)
def RX6 : String := "PhraseDesk$Parser"
def TX6 : u_T := fun k => match k with
  | 0 => ("PhraseDesk$Parser", "lexer", "LPhraseDesk$Lexer;", true)
  | 1 => ("PhraseDesk$Parser", "at", "I", false)
  | 2 => ("PhraseDesk$Parser", "error", "I", false)
  | _ => ("PhraseDesk$Parser", "place", "I", false)
def RX7 : String := "PhraseDesk$Routine"
def TX7 : u_T := fun k => match k with
  | 0 => ("PhraseDesk$Routine", "name", "I", true)
  | 1 => ("PhraseDesk$Routine", "one", "I", true)
  | 2 => ("PhraseDesk$Routine", "two", "I", true)
  | 3 => ("PhraseDesk$Routine", "parameters", "I", true)
  | 4 => ("PhraseDesk$Routine", "action", "I", true)
  | _ => ("PhraseDesk$Routine", "number", "I", true)
def RX8 : String := "PhraseDesk$Runner"
def TX8 : u_T := fun k => match k with
  | 0 => ("PhraseDesk$Runner", "nothing", "LPhraseDesk$Value;", true)
  | 1 => ("PhraseDesk$Runner", "converters", "LPhraseDesk$Converters;", true)
  | 2 => ("PhraseDesk$Runner", "finder", "LPhraseDesk$Finder;", true)
  | 3 => ("PhraseDesk$Runner", "variableNames", "[I", true)
  | 4 => ("PhraseDesk$Runner", "variableValues", "[LPhraseDesk$Value;", true)
  | 5 => ("PhraseDesk$Runner", "variableCount", "I", false)
  | 6 => ("PhraseDesk$Runner", "root", "LPhraseDesk$Value;", false)
  | _ => ("PhraseDesk$Runner", "failure", "I", false)
def RX9 : String := "PhraseDesk$Thing"
def TX9 : u_T := fun k => match k with
  | 0 => ("PhraseDesk$Thing", "number", "I", true)
  | 1 => ("PhraseDesk$Thing", "family", "LPhraseDesk$Family;", true)
  | _ => ("PhraseDesk$Thing", "values", "[LPhraseDesk$Value;", true)
def RX10 : String := "PhraseDesk$Value"
def TX10 : u_T := fun k => match k with
  | 0 => ("PhraseDesk$Value", "kind", "I", true)
  | 1 => ("PhraseDesk$Value", "number", "I", true)
  | 2 => ("PhraseDesk$Value", "real", "D", true)
  | 3 => ("PhraseDesk$Value", "chars", "Ljava/lang/String;", true)
  | _ => ("PhraseDesk$Value", "thing", "LPhraseDesk$Thing;", true)
def RX11 : String := "PhraseDesk"
def TX11 : u_T := fun k => match k with
  | 0 => ("PhraseDesk", "parser", "LPhraseDesk$Parser;", true)
  | 1 => ("PhraseDesk", "runner", "LPhraseDesk$Runner;", true)
  | 2 => ("PhraseDesk", "programs", "[LPhraseDesk$Node;", true)
  | 3 => ("PhraseDesk", "programCount", "I", false)
  | 4 => ("PhraseDesk", "families", "[LPhraseDesk$Family;", true)
  | 5 => ("PhraseDesk", "familyCount", "I", false)
  | 6 => ("PhraseDesk", "objects", "[LPhraseDesk$Value;", true)
  | 7 => ("PhraseDesk", "objectCount", "I", false)
  | _ => ("PhraseDesk", "latest", "LPhraseDesk$Value;", false)
def RX12 : String := "PhraseDeskModel"
def TX12 : u_T := fun k => match k with
  | 0 => ("PhraseDeskModel", "threw", "I", false)
  | 1 => ("PhraseDeskModel", "size", "I", false)
  | 2 => ("PhraseDeskModel", "letters", "[I", true)
  | 3 => ("PhraseDeskModel", "tokens", "I", false)
  | 4 => ("PhraseDeskModel", "tokenKind", "[I", true)
  | 5 => ("PhraseDeskModel", "tokenAt", "[I", true)
  | 6 => ("PhraseDeskModel", "token", "[J", true)
  | 7 => ("PhraseDeskModel", "scale", "[I", true)
  | 8 => ("PhraseDeskModel", "error", "I", false)
  | 9 => ("PhraseDeskModel", "where", "I", false)
  | 10 => ("PhraseDeskModel", "programs", "I", false)
  | 11 => ("PhraseDeskModel", "step", "[I", true)
  | 12 => ("PhraseDeskModel", "with", "[J", true)
  | 13 => ("PhraseDeskModel", "lengths", "[I", true)
  | 14 => ("PhraseDeskModel", "next", "I", false)
  | 15 => ("PhraseDeskModel", "start", "I", false)
  | 16 => ("PhraseDeskModel", "written", "I", false)
  | 17 => ("PhraseDeskModel", "operand", "Z", false)
  | 18 => ("PhraseDeskModel", "done", "Z", false)
  | 19 => ("PhraseDeskModel", "frames", "I", false)
  | 20 => ("PhraseDeskModel", "frame", "[I", true)
  | 21 => ("PhraseDeskModel", "base", "[I", true)
  | 22 => ("PhraseDeskModel", "sign", "[I", true)
  | 23 => ("PhraseDeskModel", "patch", "[I", true)
  | 24 => ("PhraseDeskModel", "callName", "[I", true)
  | 25 => ("PhraseDeskModel", "callCount", "[I", true)
  | 26 => ("PhraseDeskModel", "closed", "[Z", true)
  | 27 => ("PhraseDeskModel", "plain", "[Z", true)
  | 28 => ("PhraseDeskModel", "aims", "[Z", true)
  | 29 => ("PhraseDeskModel", "waiting", "I", false)
  | 30 => ("PhraseDeskModel", "operation", "[I", true)
  | 31 => ("PhraseDeskModel", "level", "[I", true)
  | 32 => ("PhraseDeskModel", "jump", "[I", true)
  | 33 => ("PhraseDeskModel", "target", "I", false)
  | 34 => ("PhraseDeskModel", "targetStep", "I", false)
  | 35 => ("PhraseDeskModel", "classes", "I", false)
  | 36 => ("PhraseDeskModel", "parent", "[I", true)
  | 37 => ("PhraseDeskModel", "fields", "[I", true)
  | 38 => ("PhraseDeskModel", "fieldName", "[I", true)
  | 39 => ("PhraseDeskModel", "fieldType", "[I", true)
  | 40 => ("PhraseDeskModel", "methods", "[I", true)
  | 41 => ("PhraseDeskModel", "methodName", "[I", true)
  | 42 => ("PhraseDeskModel", "one", "[I", true)
  | 43 => ("PhraseDeskModel", "two", "[I", true)
  | 44 => ("PhraseDeskModel", "action", "[I", true)
  | 45 => ("PhraseDeskModel", "methodNumber", "[I", true)
  | 46 => ("PhraseDeskModel", "converts", "[Z", true)
  | 47 => ("PhraseDeskModel", "objects", "I", false)
  | 48 => ("PhraseDeskModel", "classOf", "[I", true)
  | 49 => ("PhraseDeskModel", "variables", "I", false)
  | 50 => ("PhraseDeskModel", "variable", "[I", true)
  | 51 => ("PhraseDeskModel", "kind", "[I", true)
  | 52 => ("PhraseDeskModel", "a", "[J", true)
  | 53 => ("PhraseDeskModel", "b", "[J", true)
  | 54 => ("PhraseDeskModel", "real", "[D", true)
  | 55 => ("PhraseDeskModel", "top", "I", false)
  | 56 => ("PhraseDeskModel", "failure", "I", false)
  | 57 => ("PhraseDeskModel", "root", "I", false)
  | 58 => ("PhraseDeskModel", "built", "[I", true)
  | _ => ("PhraseDeskModel", "builtSize", "I", false)
def tyX12 : Nat → FieldType := fun k => match k with
  | 0 => .int
  | 1 => .int
  | 2 => .array .int
  | 3 => .int
  | 4 => .array .int
  | 5 => .array .int
  | 6 => .array .long
  | 7 => .array .int
  | 8 => .int
  | 9 => .int
  | 10 => .int
  | 11 => .array .int
  | 12 => .array .long
  | 13 => .array .int
  | 14 => .int
  | 15 => .int
  | 16 => .int
  | 17 => .boolean
  | 18 => .boolean
  | 19 => .int
  | 20 => .array .int
  | 21 => .array .int
  | 22 => .array .int
  | 23 => .array .int
  | 24 => .array .int
  | 25 => .array .int
  | 26 => .array .boolean
  | 27 => .array .boolean
  | 28 => .array .boolean
  | 29 => .int
  | 30 => .array .int
  | 31 => .array .int
  | 32 => .array .int
  | 33 => .int
  | 34 => .int
  | 35 => .int
  | 36 => .array .int
  | 37 => .array .int
  | 38 => .array .int
  | 39 => .array .int
  | 40 => .array .int
  | 41 => .array .int
  | 42 => .array .int
  | 43 => .array .int
  | 44 => .array .int
  | 45 => .array .int
  | 46 => .array .boolean
  | 47 => .int
  | 48 => .array .int
  | 49 => .int
  | 50 => .array .int
  | 51 => .array .int
  | 52 => .array .long
  | 53 => .array .long
  | 54 => .array .double
  | 55 => .int
  | 56 => .int
  | 57 => .int
  | 58 => .array .int
  | _ => .int
abbrev wsX120 : List Cond := u_ws RX12 TX12 60
theorem nmX12 : ∀ a, a < 60 → ∀ b, b < 60 → a ≠ b → (TX12 a).2.1 ≠ (TX12 b).2.1 := by decide +kernel
theorem tyX12_ok : ∀ k, k < 60 → parseFieldDescriptor (TX12 k).2.2.1 = some (tyX12 k) := by decide +kernel
abbrev cX12_thrown : ByteArray := prog_14_method_2_code
def yX12_thrown : MethodName := ⟨RX12, "thrown", "()I"⟩
abbrev cX12_at : ByteArray := prog_14_method_4_code
def yX12_at : MethodName := ⟨RX12, "at", "(I)I"⟩
abbrev cX12_digit : ByteArray := prog_14_method_5_code
def yX12_digit : MethodName := ⟨RX12, "digit", "(I)Z"⟩
abbrev cX12_lower : ByteArray := prog_14_method_6_code
def yX12_lower : MethodName := ⟨RX12, "lower", "(I)Z"⟩
abbrev cX12_wrong : ByteArray := prog_14_method_7_code
def yX12_wrong : MethodName := ⟨RX12, "wrong", "(II)V"⟩
abbrev cX12_add : ByteArray := prog_14_method_8_code
def yX12_add : MethodName := ⟨RX12, "add", "(IIJ)V"⟩
abbrev cX12_name : ByteArray := prog_14_method_10_code
def yX12_name : MethodName := ⟨RX12, "name", "(I)I"⟩
def RJ0 : String := "java/lang/String"
def TJ0 : u_T := fun k => match k with
  | 0 => ("java/lang/String", "value", "[B", true)
  | 1 => ("java/lang/String", "coder", "B", true)
  | 2 => ("java/lang/String", "hash", "I", false)
  | _ => ("java/lang/String", "hashIsZero", "Z", false)
def RJ4 : String := "java/lang/StringBuilder"
def TJ4 : u_T := fun k => match k with
  | 0 => ("java/lang/AbstractStringBuilder", "value", "[B", false)
  | 1 => ("java/lang/AbstractStringBuilder", "coder", "B", false)
  | 2 => ("java/lang/AbstractStringBuilder", "maybeLatin1", "Z", false)
  | _ => ("java/lang/AbstractStringBuilder", "count", "I", false)
theorem dX12_thrown_0 : decode cX12_thrown 0 = .ok (.aload_n 0, 1) := by decide +kernel
theorem dX12_thrown_1 : decode cX12_thrown 1 = .ok (.getfield 127, 3) := by decide +kernel
theorem dX12_thrown_4 : decode cX12_thrown 4 = .ok (.ireturn, 1) := by decide +kernel
theorem dX12_at_0 : decode cX12_at 0 = .ok (.iload_n 1, 1) := by decide +kernel
theorem dX12_at_1 : decode cX12_at 1 = .ok (.aload_n 0, 1) := by decide +kernel
theorem dX12_at_2 : decode cX12_at 2 = .ok (.getfield 131, 3) := by decide +kernel
theorem dX12_at_5 : decode cX12_at 5 = .ok (.if_icmp .ge 12, 3) := by decide +kernel
theorem dX12_at_8 : decode cX12_at 8 = .ok (.aload_n 0, 1) := by decide +kernel
theorem dX12_at_9 : decode cX12_at 9 = .ok (.getfield 7, 3) := by decide +kernel
theorem dX12_at_12 : decode cX12_at 12 = .ok (.iload_n 1, 1) := by decide +kernel
theorem dX12_at_13 : decode cX12_at 13 = .ok (.iaload, 1) := by decide +kernel
theorem dX12_at_14 : decode cX12_at 14 = .ok (.goto 4, 3) := by decide +kernel
theorem dX12_at_17 : decode cX12_at 17 = .ok (.iconst 0, 1) := by decide +kernel
theorem dX12_at_18 : decode cX12_at 18 = .ok (.ireturn, 1) := by decide +kernel
theorem dX12_digit_0 : decode cX12_digit 0 = .ok (.aload_n 0, 1) := by decide +kernel
theorem dX12_digit_1 : decode cX12_digit 1 = .ok (.iload_n 1, 1) := by decide +kernel
theorem dX12_digit_2 : decode cX12_digit 2 = .ok (.invokevirtual 134, 3) := by decide +kernel
theorem dX12_digit_5 : decode cX12_digit 5 = .ok (.bipush 48, 2) := by decide +kernel
theorem dX12_digit_7 : decode cX12_digit 7 = .ok (.if_icmp .lt 17, 3) := by decide +kernel
theorem dX12_digit_10 : decode cX12_digit 10 = .ok (.aload_n 0, 1) := by decide +kernel
theorem dX12_digit_11 : decode cX12_digit 11 = .ok (.iload_n 1, 1) := by decide +kernel
theorem dX12_digit_12 : decode cX12_digit 12 = .ok (.invokevirtual 134, 3) := by decide +kernel
theorem dX12_digit_15 : decode cX12_digit 15 = .ok (.bipush 57, 2) := by decide +kernel
theorem dX12_digit_17 : decode cX12_digit 17 = .ok (.if_icmp .gt 7, 3) := by decide +kernel
theorem dX12_digit_20 : decode cX12_digit 20 = .ok (.iconst 1, 1) := by decide +kernel
theorem dX12_digit_21 : decode cX12_digit 21 = .ok (.goto 4, 3) := by decide +kernel
theorem dX12_digit_24 : decode cX12_digit 24 = .ok (.iconst 0, 1) := by decide +kernel
theorem dX12_digit_25 : decode cX12_digit 25 = .ok (.ireturn, 1) := by decide +kernel
theorem dX12_lower_0 : decode cX12_lower 0 = .ok (.aload_n 0, 1) := by decide +kernel
theorem dX12_lower_1 : decode cX12_lower 1 = .ok (.iload_n 1, 1) := by decide +kernel
theorem dX12_lower_2 : decode cX12_lower 2 = .ok (.invokevirtual 134, 3) := by decide +kernel
theorem dX12_lower_5 : decode cX12_lower 5 = .ok (.bipush 97, 2) := by decide +kernel
theorem dX12_lower_7 : decode cX12_lower 7 = .ok (.if_icmp .lt 17, 3) := by decide +kernel
theorem dX12_lower_10 : decode cX12_lower 10 = .ok (.aload_n 0, 1) := by decide +kernel
theorem dX12_lower_11 : decode cX12_lower 11 = .ok (.iload_n 1, 1) := by decide +kernel
theorem dX12_lower_12 : decode cX12_lower 12 = .ok (.invokevirtual 134, 3) := by decide +kernel
theorem dX12_lower_15 : decode cX12_lower 15 = .ok (.bipush 122, 2) := by decide +kernel
theorem dX12_lower_17 : decode cX12_lower 17 = .ok (.if_icmp .gt 7, 3) := by decide +kernel
theorem dX12_lower_20 : decode cX12_lower 20 = .ok (.iconst 1, 1) := by decide +kernel
theorem dX12_lower_21 : decode cX12_lower 21 = .ok (.goto 4, 3) := by decide +kernel
theorem dX12_lower_24 : decode cX12_lower 24 = .ok (.iconst 0, 1) := by decide +kernel
theorem dX12_lower_25 : decode cX12_lower 25 = .ok (.ireturn, 1) := by decide +kernel
theorem dX12_wrong_0 : decode cX12_wrong 0 = .ok (.aload_n 0, 1) := by decide +kernel
theorem dX12_wrong_1 : decode cX12_wrong 1 = .ok (.getfield 138, 3) := by decide +kernel
theorem dX12_wrong_4 : decode cX12_wrong 4 = .ok (.ifCond .ne 13, 3) := by decide +kernel
theorem dX12_wrong_7 : decode cX12_wrong 7 = .ok (.aload_n 0, 1) := by decide +kernel
theorem dX12_wrong_8 : decode cX12_wrong 8 = .ok (.iload_n 1, 1) := by decide +kernel
theorem dX12_wrong_9 : decode cX12_wrong 9 = .ok (.putfield 138, 3) := by decide +kernel
theorem dX12_wrong_12 : decode cX12_wrong 12 = .ok (.aload_n 0, 1) := by decide +kernel
theorem dX12_wrong_13 : decode cX12_wrong 13 = .ok (.iload_n 2, 1) := by decide +kernel
theorem dX12_wrong_14 : decode cX12_wrong 14 = .ok (.putfield 141, 3) := by decide +kernel
theorem dX12_wrong_17 : decode cX12_wrong 17 = .ok (.return_, 1) := by decide +kernel
theorem dX12_add_0 : decode cX12_add 0 = .ok (.aload_n 0, 1) := by decide +kernel
theorem dX12_add_1 : decode cX12_add 1 = .ok (.getfield 13, 3) := by decide +kernel
theorem dX12_add_4 : decode cX12_add 4 = .ok (.aload_n 0, 1) := by decide +kernel
theorem dX12_add_5 : decode cX12_add 5 = .ok (.getfield 144, 3) := by decide +kernel
theorem dX12_add_8 : decode cX12_add 8 = .ok (.iload_n 1, 1) := by decide +kernel
theorem dX12_add_9 : decode cX12_add 9 = .ok (.iastore, 1) := by decide +kernel
theorem dX12_add_10 : decode cX12_add 10 = .ok (.aload_n 0, 1) := by decide +kernel
theorem dX12_add_11 : decode cX12_add 11 = .ok (.getfield 16, 3) := by decide +kernel
theorem dX12_add_14 : decode cX12_add 14 = .ok (.aload_n 0, 1) := by decide +kernel
theorem dX12_add_15 : decode cX12_add 15 = .ok (.getfield 144, 3) := by decide +kernel
theorem dX12_add_18 : decode cX12_add 18 = .ok (.iload_n 2, 1) := by decide +kernel
theorem dX12_add_19 : decode cX12_add 19 = .ok (.iastore, 1) := by decide +kernel
theorem dX12_add_20 : decode cX12_add 20 = .ok (.aload_n 0, 1) := by decide +kernel
theorem dX12_add_21 : decode cX12_add 21 = .ok (.getfield 19, 3) := by decide +kernel
theorem dX12_add_24 : decode cX12_add 24 = .ok (.aload_n 0, 1) := by decide +kernel
theorem dX12_add_25 : decode cX12_add 25 = .ok (.getfield 144, 3) := by decide +kernel
theorem dX12_add_28 : decode cX12_add 28 = .ok (.lload_n 3, 1) := by decide +kernel
theorem dX12_add_29 : decode cX12_add 29 = .ok (.lastore, 1) := by decide +kernel
theorem dX12_add_30 : decode cX12_add 30 = .ok (.aload_n 0, 1) := by decide +kernel
theorem dX12_add_31 : decode cX12_add 31 = .ok (.getfield 23, 3) := by decide +kernel
theorem dX12_add_34 : decode cX12_add 34 = .ok (.aload_n 0, 1) := by decide +kernel
theorem dX12_add_35 : decode cX12_add 35 = .ok (.getfield 144, 3) := by decide +kernel
theorem dX12_add_38 : decode cX12_add 38 = .ok (.iconst 0, 1) := by decide +kernel
theorem dX12_add_39 : decode cX12_add 39 = .ok (.iastore, 1) := by decide +kernel
theorem dX12_add_40 : decode cX12_add 40 = .ok (.aload_n 0, 1) := by decide +kernel
theorem dX12_add_41 : decode cX12_add 41 = .ok (.dup, 1) := by decide +kernel
theorem dX12_add_42 : decode cX12_add 42 = .ok (.getfield 144, 3) := by decide +kernel
theorem dX12_add_45 : decode cX12_add 45 = .ok (.iconst 1, 1) := by decide +kernel
theorem dX12_add_46 : decode cX12_add 46 = .ok (.iadd, 1) := by decide +kernel
theorem dX12_add_47 : decode cX12_add 47 = .ok (.putfield 144, 3) := by decide +kernel
theorem dX12_add_50 : decode cX12_add 50 = .ok (.return_, 1) := by decide +kernel
theorem dX12_name_0 : decode cX12_name 0 = .ok (.iload_n 1, 1) := by decide +kernel
theorem dX12_name_1 : decode cX12_name 1 = .ok (.istore_n 2, 1) := by decide +kernel
theorem dX12_name_2 : decode cX12_name 2 = .ok (.lconst 0, 1) := by decide +kernel
theorem dX12_name_3 : decode cX12_name 3 = .ok (.lstore_n 3, 1) := by decide +kernel
theorem dX12_name_4 : decode cX12_name 4 = .ok (.aload_n 0, 1) := by decide +kernel
theorem dX12_name_5 : decode cX12_name 5 = .ok (.iload_n 2, 1) := by decide +kernel
theorem dX12_name_6 : decode cX12_name 6 = .ok (.invokevirtual 163, 3) := by decide +kernel
theorem dX12_name_9 : decode cX12_name 9 = .ok (.ifCond .eq 40, 3) := by decide +kernel
theorem dX12_name_12 : decode cX12_name 12 = .ok (.iload_n 2, 1) := by decide +kernel
theorem dX12_name_13 : decode cX12_name 13 = .ok (.iload_n 1, 1) := by decide +kernel
theorem dX12_name_14 : decode cX12_name 14 = .ok (.isub, 1) := by decide +kernel
theorem dX12_name_15 : decode cX12_name 15 = .ok (.bipush 6, 2) := by decide +kernel
theorem dX12_name_17 : decode cX12_name 17 = .ok (.if_icmp .ge 24, 3) := by decide +kernel
theorem dX12_name_20 : decode cX12_name 20 = .ok (.lload_n 3, 1) := by decide +kernel
theorem dX12_name_21 : decode cX12_name 21 = .ok (.ldc2_w 166, 3) := by decide +kernel
theorem dX12_name_24 : decode cX12_name 24 = .ok (.lmul, 1) := by decide +kernel
theorem dX12_name_25 : decode cX12_name 25 = .ok (.aload_n 0, 1) := by decide +kernel
theorem dX12_name_26 : decode cX12_name 26 = .ok (.iload_n 2, 1) := by decide +kernel
theorem dX12_name_27 : decode cX12_name 27 = .ok (.invokevirtual 134, 3) := by decide +kernel
theorem dX12_name_30 : decode cX12_name 30 = .ok (.i2l, 1) := by decide +kernel
theorem dX12_name_31 : decode cX12_name 31 = .ok (.ladd, 1) := by decide +kernel
theorem dX12_name_32 : decode cX12_name 32 = .ok (.ldc2_w 168, 3) := by decide +kernel
theorem dX12_name_35 : decode cX12_name 35 = .ok (.lsub, 1) := by decide +kernel
theorem dX12_name_36 : decode cX12_name 36 = .ok (.lconst 1, 1) := by decide +kernel
theorem dX12_name_37 : decode cX12_name 37 = .ok (.ladd, 1) := by decide +kernel
theorem dX12_name_38 : decode cX12_name 38 = .ok (.goto 4, 3) := by decide +kernel
theorem dX12_name_41 : decode cX12_name 41 = .ok (.lload_n 3, 1) := by decide +kernel
theorem dX12_name_42 : decode cX12_name 42 = .ok (.lstore_n 3, 1) := by decide +kernel
theorem dX12_name_43 : decode cX12_name 43 = .ok (.iinc 2 1, 3) := by decide +kernel
theorem dX12_name_46 : decode cX12_name 46 = .ok (.goto (-42), 3) := by decide +kernel
theorem dX12_name_49 : decode cX12_name 49 = .ok (.iload_n 2, 1) := by decide +kernel
theorem dX12_name_50 : decode cX12_name 50 = .ok (.iload_n 1, 1) := by decide +kernel
theorem dX12_name_51 : decode cX12_name 51 = .ok (.isub, 1) := by decide +kernel
theorem dX12_name_52 : decode cX12_name 52 = .ok (.iconst 5, 1) := by decide +kernel
theorem dX12_name_53 : decode cX12_name 53 = .ok (.if_icmp .le 12, 3) := by decide +kernel
theorem dX12_name_56 : decode cX12_name 56 = .ok (.aload_n 0, 1) := by decide +kernel
theorem dX12_name_57 : decode cX12_name 57 = .ok (.iconst 1, 1) := by decide +kernel
theorem dX12_name_58 : decode cX12_name 58 = .ok (.iload_n 1, 1) := by decide +kernel
theorem dX12_name_59 : decode cX12_name 59 = .ok (.invokevirtual 155, 3) := by decide +kernel
theorem dX12_name_62 : decode cX12_name 62 = .ok (.goto 10, 3) := by decide +kernel
theorem dX12_name_65 : decode cX12_name 65 = .ok (.aload_n 0, 1) := by decide +kernel
theorem dX12_name_66 : decode cX12_name 66 = .ok (.iconst 3, 1) := by decide +kernel
theorem dX12_name_67 : decode cX12_name 67 = .ok (.iload_n 1, 1) := by decide +kernel
theorem dX12_name_68 : decode cX12_name 68 = .ok (.lload_n 3, 1) := by decide +kernel
theorem dX12_name_69 : decode cX12_name 69 = .ok (.invokevirtual 159, 3) := by decide +kernel
theorem dX12_name_72 : decode cX12_name 72 = .ok (.iload_n 2, 1) := by decide +kernel
theorem dX12_name_73 : decode cX12_name 73 = .ok (.ireturn, 1) := by decide +kernel
abbrev vwCl : List vw_C := [(RJ0, TJ0, 4), (RJ4, TJ4, 4), (RX0, TX0, 2), (RX1, TX1, 7), (RX2, TX2, 3), (RX3, TX3, 3), (RX4, TX4, 8), (RX5, TX5, 8), (RX6, TX6, 4), (RX7, TX7, 6), (RX8, TX8, 8), (RX9, TX9, 3), (RX10, TX10, 5), (RX11, TX11, 9), (RX12, TX12, 60)]
