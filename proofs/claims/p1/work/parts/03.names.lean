def RX0 : String := "ThreeMills$Bindings"
def TX0 : u_T := fun k => match k with
  | 0 => ("ThreeMills$Bindings", "nameStarts", "[I", true)
  | 1 => ("ThreeMills$Bindings", "nameLengths", "[I", true)
  | 2 => ("ThreeMills$Bindings", "owners", "[I", true)
  | 3 => ("ThreeMills$Bindings", "variableTypes", "[I", true)
  | 4 => ("ThreeMills$Bindings", "known", "[I", true)
  | 5 => ("ThreeMills$Bindings", "variables", "I", false)
  | 6 => ("ThreeMills$Bindings", "places", "[I", true)
  | 7 => ("ThreeMills$Bindings", "ownNames", "[I", true)
  | 8 => ("ThreeMills$Bindings", "parameters", "[I", true)
  | 9 => ("ThreeMills$Bindings", "knownBy", "[I", true)
  | 10 => ("ThreeMills$Bindings", "arrows", "[I", true)
  | 11 => ("ThreeMills$Bindings", "orders", "[I", true)
  | 12 => ("ThreeMills$Bindings", "parents", "[I", true)
  | 13 => ("ThreeMills$Bindings", "bodies", "[I", true)
  | 14 => ("ThreeMills$Bindings", "functions", "I", false)
  | 15 => ("ThreeMills$Bindings", "free", "[I", true)
  | 16 => ("ThreeMills$Bindings", "freeCounts", "[I", true)
  | 17 => ("ThreeMills$Bindings", "extra", "[I", true)
  | _ => ("ThreeMills$Bindings", "extraCounts", "[I", true)
def tyX0 : Nat → FieldType := fun k => match k with
  | 0 => .array .int
  | 1 => .array .int
  | 2 => .array .int
  | 3 => .array .int
  | 4 => .array .int
  | 5 => .int
  | 6 => .array .int
  | 7 => .array .int
  | 8 => .array .int
  | 9 => .array .int
  | 10 => .array .int
  | 11 => .array .int
  | 12 => .array .int
  | 13 => .array .int
  | 14 => .int
  | 15 => .array .int
  | 16 => .array .int
  | 17 => .array .int
  | _ => .array .int
abbrev wsX00 : List Cond := u_ws RX0 TX0 19
theorem nmX0 : ∀ a, a < 19 → ∀ b, b < 19 → a ≠ b → (TX0 a).2.1 ≠ (TX0 b).2.1 := by decide +kernel
theorem tyX0_ok : ∀ k, k < 19 → parseFieldDescriptor (TX0 k).2.2.1 = some (tyX0 k) := by decide +kernel
abbrev cX0_init : ByteArray := prog_2_method_1_code
def yX0_init : MethodName := ⟨RX0, "<init>", "()V"⟩
abbrev cX0_clear : ByteArray := prog_2_method_2_code
def yX0_clear : MethodName := ⟨RX0, "clear", "()V"⟩
def RX1 : String := "ThreeMills$Checker"
def TX1 : u_T := fun k => match k with
  | 0 => ("ThreeMills$Checker", "program", "LThreeMills$Program;", false)
  | 1 => ("ThreeMills$Checker", "types", "LThreeMills$Types;", false)
  | _ => ("ThreeMills$Checker", "bindings", "LThreeMills$Bindings;", false)
def tyX1 : Nat → FieldType := fun k => match k with
  | 0 => .object "ThreeMills$Program"
  | 1 => .object "ThreeMills$Types"
  | _ => .object "ThreeMills$Bindings"
abbrev wsX10 : List Cond := u_ws RX1 TX1 3
theorem nmX1 : ∀ a, a < 3 → ∀ b, b < 3 → a ≠ b → (TX1 a).2.1 ≠ (TX1 b).2.1 := by decide +kernel
theorem tyX1_ok : ∀ k, k < 3 → parseFieldDescriptor (TX1 k).2.2.1 = some (tyX1 k) := by decide +kernel
abbrev cX1_init : ByteArray := prog_3_method_1_code
def yX1_init : MethodName := ⟨RX1, "<init>", "(LThreeMills$Program;)V"⟩
def RX2 : String := "ThreeMills$Coder"
def TX2 : u_T := fun k => match k with
  | 0 => ("ThreeMills$Coder", "orders", "[I", true)
  | 1 => ("ThreeMills$Coder", "operands", "[I", true)
  | 2 => ("ThreeMills$Coder", "entries", "[I", true)
  | 3 => ("ThreeMills$Coder", "written", "I", false)
  | 4 => ("ThreeMills$Coder", "program", "LThreeMills$Program;", false)
  | 5 => ("ThreeMills$Coder", "bindings", "LThreeMills$Bindings;", false)
  | 6 => ("ThreeMills$Coder", "mill", "I", false)
  | _ => ("ThreeMills$Coder", "coded", "I", false)
def tyX2 : Nat → FieldType := fun k => match k with
  | 0 => .array .int
  | 1 => .array .int
  | 2 => .array .int
  | 3 => .int
  | 4 => .object "ThreeMills$Program"
  | 5 => .object "ThreeMills$Bindings"
  | 6 => .int
  | _ => .int
abbrev wsX20 : List Cond := u_ws RX2 TX2 8
theorem nmX2 : ∀ a, a < 8 → ∀ b, b < 8 → a ≠ b → (TX2 a).2.1 ≠ (TX2 b).2.1 := by decide +kernel
theorem tyX2_ok : ∀ k, k < 8 → parseFieldDescriptor (TX2 k).2.2.1 = some (tyX2 k) := by decide +kernel
abbrev cX2_init : ByteArray := prog_4_method_1_code
def yX2_init : MethodName := ⟨RX2, "<init>", "(LThreeMills$Program;)V"⟩
def RX3 : String := "ThreeMills$Ink"
def TX3 : u_T := fun k => match k with
  | 0 => ("ThreeMills$Ink", "bytes", "[B", true)
  | _ => ("ThreeMills$Ink", "length", "I", false)
def tyX3 : Nat → FieldType := fun k => match k with
  | 0 => .array .byte
  | _ => .int
abbrev wsX30 : List Cond := u_ws RX3 TX3 2
theorem nmX3 : ∀ a, a < 2 → ∀ b, b < 2 → a ≠ b → (TX3 a).2.1 ≠ (TX3 b).2.1 := by decide +kernel
theorem tyX3_ok : ∀ k, k < 2 → parseFieldDescriptor (TX3 k).2.2.1 = some (tyX3 k) := by decide +kernel
abbrev cX3_init : ByteArray := prog_5_method_1_code
def yX3_init : MethodName := ⟨RX3, "<init>", "(I)V"⟩
abbrev cX3_clear : ByteArray := prog_5_method_2_code
def yX3_clear : MethodName := ⟨RX3, "clear", "()V"⟩
abbrev cX3_length : ByteArray := prog_5_method_3_code
def yX3_length : MethodName := ⟨RX3, "length", "()I"⟩
abbrev cX3_keeps : ByteArray := prog_5_method_4_code
def yX3_keeps : MethodName := ⟨RX3, "keeps", "(I)Z"⟩
def RX4 : String := "ThreeMills$Machine"
def TX4 : u_T := fun k => match k with
  | 0 => ("ThreeMills$Machine", "coder", "LThreeMills$Coder;", true)
  | 1 => ("ThreeMills$Machine", "said", "LThreeMills$Ink;", true)
  | 2 => ("ThreeMills$Machine", "program", "LThreeMills$Program;", false)
  | 3 => ("ThreeMills$Machine", "bindings", "LThreeMills$Bindings;", false)
  | 4 => ("ThreeMills$Machine", "stack", "[I", true)
  | 5 => ("ThreeMills$Machine", "top", "I", false)
  | 6 => ("ThreeMills$Machine", "frames", "[I", true)
  | 7 => ("ThreeMills$Machine", "returns", "[I", true)
  | 8 => ("ThreeMills$Machine", "open", "I", false)
  | 9 => ("ThreeMills$Machine", "heap", "[I", true)
  | 10 => ("ThreeMills$Machine", "used", "I", false)
  | 11 => ("ThreeMills$Machine", "place", "I", false)
  | 12 => ("ThreeMills$Machine", "mill", "I", false)
  | 13 => ("ThreeMills$Machine", "limit", "I", false)
  | 14 => ("ThreeMills$Machine", "ended", "I", false)
  | 15 => ("ThreeMills$Machine", "calls", "I", false)
  | 16 => ("ThreeMills$Machine", "values", "I", false)
  | 17 => ("ThreeMills$Machine", "special", "I", false)
  | 18 => ("ThreeMills$Machine", "allCalls", "I", false)
  | _ => ("ThreeMills$Machine", "allValues", "I", false)
def tyX4 : Nat → FieldType := fun k => match k with
  | 0 => .object "ThreeMills$Coder"
  | 1 => .object "ThreeMills$Ink"
  | 2 => .object "ThreeMills$Program"
  | 3 => .object "ThreeMills$Bindings"
  | 4 => .array .int
  | 5 => .int
  | 6 => .array .int
  | 7 => .array .int
  | 8 => .int
  | 9 => .array .int
  | 10 => .int
  | 11 => .int
  | 12 => .int
  | 13 => .int
  | 14 => .int
  | 15 => .int
  | 16 => .int
  | 17 => .int
  | 18 => .int
  | _ => .int
abbrev wsX40 : List Cond := u_ws RX4 TX4 20
theorem nmX4 : ∀ a, a < 20 → ∀ b, b < 20 → a ≠ b → (TX4 a).2.1 ≠ (TX4 b).2.1 := by decide +kernel
theorem tyX4_ok : ∀ k, k < 20 → parseFieldDescriptor (TX4 k).2.2.1 = some (tyX4 k) := by decide +kernel
abbrev cX4_init : ByteArray := prog_6_method_1_code
def yX4_init : MethodName := ⟨RX4, "<init>", "(LThreeMills$Program;LThreeMills$Coder;)V"⟩
abbrev cX4_ended : ByteArray := prog_6_method_2_code
def yX4_ended : MethodName := ⟨RX4, "ended", "()I"⟩
abbrev cX4_calls : ByteArray := prog_6_method_3_code
def yX4_calls : MethodName := ⟨RX4, "calls", "()I"⟩
abbrev cX4_values : ByteArray := prog_6_method_4_code
def yX4_values : MethodName := ⟨RX4, "values", "()I"⟩
abbrev cX4_special : ByteArray := prog_6_method_5_code
def yX4_special : MethodName := ⟨RX4, "special", "()I"⟩
abbrev cX4_allCalls : ByteArray := prog_6_method_6_code
def yX4_allCalls : MethodName := ⟨RX4, "allCalls", "()I"⟩
def RX5 : String := "ThreeMills$Needs"
def TX5 : u_T := fun k => match k with
  | _ => ("ThreeMills$Needs", "marks", "[I", true)
def tyX5 : Nat → FieldType := fun k => match k with
  | _ => .array .int
abbrev wsX50 : List Cond := u_ws RX5 TX5 1
theorem nmX5 : ∀ a, a < 1 → ∀ b, b < 1 → a ≠ b → (TX5 a).2.1 ≠ (TX5 b).2.1 := by decide +kernel
theorem tyX5_ok : ∀ k, k < 1 → parseFieldDescriptor (TX5 k).2.2.1 = some (tyX5 k) := by decide +kernel
abbrev cX5_init : ByteArray := prog_7_method_1_code
def yX5_init : MethodName := ⟨RX5, "<init>", "()V"⟩
def RX6 : String := "ThreeMills$Parser"
def TX6 : u_T := fun k => match k with
  | 0 => ("ThreeMills$Parser", "program", "LThreeMills$Program;", false)
  | 1 => ("ThreeMills$Parser", "bindings", "LThreeMills$Bindings;", false)
  | 2 => ("ThreeMills$Parser", "scanner", "LThreeMills$Scanner;", true)
  | 3 => ("ThreeMills$Parser", "visible", "[I", true)
  | 4 => ("ThreeMills$Parser", "seen", "I", false)
  | _ => ("ThreeMills$Parser", "asker", "I", false)
def tyX6 : Nat → FieldType := fun k => match k with
  | 0 => .object "ThreeMills$Program"
  | 1 => .object "ThreeMills$Bindings"
  | 2 => .object "ThreeMills$Scanner"
  | 3 => .array .int
  | 4 => .int
  | _ => .int
abbrev wsX60 : List Cond := u_ws RX6 TX6 6
theorem nmX6 : ∀ a, a < 6 → ∀ b, b < 6 → a ≠ b → (TX6 a).2.1 ≠ (TX6 b).2.1 := by decide +kernel
theorem tyX6_ok : ∀ k, k < 6 → parseFieldDescriptor (TX6 k).2.2.1 = some (tyX6 k) := by decide +kernel
abbrev cX6_init : ByteArray := prog_8_method_1_code
def yX6_init : MethodName := ⟨RX6, "<init>", "(LThreeMills$Program;)V"⟩
abbrev cX6_read : ByteArray := prog_8_method_2_code
def yX6_read : MethodName := ⟨RX6, "read", "(LThreeMills$Program;)V"⟩
abbrev cX6_refuse : ByteArray := prog_8_method_3_code
def yX6_refuse : MethodName := ⟨RX6, "refuse", "(I)I"⟩
abbrev cX6_accept : ByteArray := prog_8_method_4_code
def yX6_accept : MethodName := ⟨RX6, "accept", "(I)V"⟩
abbrev cX6_expression : ByteArray := prog_8_method_5_code
def yX6_expression : MethodName := ⟨RX6, "expression", "(I)I"⟩
abbrev cX6_startsExpression : ByteArray := prog_8_method_6_code
def yX6_startsExpression : MethodName := ⟨RX6, "startsExpression", "()Z"⟩
abbrev cX6_startsAtom : ByteArray := prog_8_method_7_code
def yX6_startsAtom : MethodName := ⟨RX6, "startsAtom", "()Z"⟩
def RX7 : String := "ThreeMills$Program"
def TX7 : u_T := fun k => match k with
  | 0 => ("ThreeMills$Program", "letters", "[B", true)
  | 1 => ("ThreeMills$Program", "length", "I", false)
  | 2 => ("ThreeMills$Program", "kinds", "[I", true)
  | 3 => ("ThreeMills$Program", "places", "[I", true)
  | 4 => ("ThreeMills$Program", "numbers", "[I", true)
  | 5 => ("ThreeMills$Program", "firsts", "[I", true)
  | 6 => ("ThreeMills$Program", "nexts", "[I", true)
  | 7 => ("ThreeMills$Program", "types", "[I", true)
  | 8 => ("ThreeMills$Program", "signs", "[I", true)
  | 9 => ("ThreeMills$Program", "signPlaces", "[I", true)
  | 10 => ("ThreeMills$Program", "nodes", "I", false)
  | 11 => ("ThreeMills$Program", "root", "I", false)
  | 12 => ("ThreeMills$Program", "refusal", "I", false)
  | 13 => ("ThreeMills$Program", "refusedAt", "I", false)
  | 14 => ("ThreeMills$Program", "allTypes", "LThreeMills$Types;", true)
  | _ => ("ThreeMills$Program", "allBindings", "LThreeMills$Bindings;", true)
def tyX7 : Nat → FieldType := fun k => match k with
  | 0 => .array .byte
  | 1 => .int
  | 2 => .array .int
  | 3 => .array .int
  | 4 => .array .int
  | 5 => .array .int
  | 6 => .array .int
  | 7 => .array .int
  | 8 => .array .int
  | 9 => .array .int
  | 10 => .int
  | 11 => .int
  | 12 => .int
  | 13 => .int
  | 14 => .object "ThreeMills$Types"
  | _ => .object "ThreeMills$Bindings"
abbrev wsX70 : List Cond := u_ws RX7 TX7 16
theorem nmX7 : ∀ a, a < 16 → ∀ b, b < 16 → a ≠ b → (TX7 a).2.1 ≠ (TX7 b).2.1 := by decide +kernel
theorem tyX7_ok : ∀ k, k < 16 → parseFieldDescriptor (TX7 k).2.2.1 = some (tyX7 k) := by decide +kernel
abbrev cX7_init : ByteArray := prog_9_method_1_code
def yX7_init : MethodName := ⟨RX7, "<init>", "(I)V"⟩
abbrev cX7_open : ByteArray := prog_9_method_2_code
def yX7_open : MethodName := ⟨RX7, "open", "([BI)V"⟩
abbrev cX7_types : ByteArray := prog_9_method_3_code
def yX7_types : MethodName := ⟨RX7, "types", "()LThreeMills$Types;"⟩
abbrev cX7_bindings : ByteArray := prog_9_method_4_code
def yX7_bindings : MethodName := ⟨RX7, "bindings", "()LThreeMills$Bindings;"⟩
abbrev cX7_length : ByteArray := prog_9_method_5_code
def yX7_length : MethodName := ⟨RX7, "length", "()I"⟩
abbrev cX7_letter : ByteArray := prog_9_method_6_code
def yX7_letter : MethodName := ⟨RX7, "letter", "(I)I"⟩
abbrev cX7_refuse : ByteArray := prog_9_method_7_code
def yX7_refuse : MethodName := ⟨RX7, "refuse", "(II)V"⟩
abbrev cX7_refusal : ByteArray := prog_9_method_8_code
def yX7_refusal : MethodName := ⟨RX7, "refusal", "()I"⟩
abbrev cX7_refusedAt : ByteArray := prog_9_method_9_code
def yX7_refusedAt : MethodName := ⟨RX7, "refusedAt", "()I"⟩
abbrev cX7_setRoot : ByteArray := prog_9_method_15_code
def yX7_setRoot : MethodName := ⟨RX7, "setRoot", "(I)V"⟩
def RX8 : String := "ThreeMills$Scanner"
def TX8 : u_T := fun k => match k with
  | 0 => ("ThreeMills$Scanner", "program", "LThreeMills$Program;", false)
  | 1 => ("ThreeMills$Scanner", "kinds", "[I", true)
  | 2 => ("ThreeMills$Scanner", "starts", "[I", true)
  | 3 => ("ThreeMills$Scanner", "ends", "[I", true)
  | 4 => ("ThreeMills$Scanner", "found", "I", false)
  | 5 => ("ThreeMills$Scanner", "current", "I", false)
  | 6 => ("ThreeMills$Scanner", "kind", "I", false)
  | 7 => ("ThreeMills$Scanner", "start", "I", false)
  | _ => ("ThreeMills$Scanner", "end", "I", false)
def tyX8 : Nat → FieldType := fun k => match k with
  | 0 => .object "ThreeMills$Program"
  | 1 => .array .int
  | 2 => .array .int
  | 3 => .array .int
  | 4 => .int
  | 5 => .int
  | 6 => .int
  | 7 => .int
  | _ => .int
abbrev wsX80 : List Cond := u_ws RX8 TX8 9
theorem nmX8 : ∀ a, a < 9 → ∀ b, b < 9 → a ≠ b → (TX8 a).2.1 ≠ (TX8 b).2.1 := by decide +kernel
theorem tyX8_ok : ∀ k, k < 9 → parseFieldDescriptor (TX8 k).2.2.1 = some (tyX8 k) := by decide +kernel
abbrev cX8_init : ByteArray := prog_10_method_1_code
def yX8_init : MethodName := ⟨RX8, "<init>", "(LThreeMills$Program;)V"⟩
abbrev cX8_open : ByteArray := prog_10_method_2_code
def yX8_open : MethodName := ⟨RX8, "open", "(LThreeMills$Program;)V"⟩
abbrev cX8_stop : ByteArray := prog_10_method_3_code
def yX8_stop : MethodName := ⟨RX8, "stop", "()V"⟩
abbrev cX8_kind : ByteArray := prog_10_method_4_code
def yX8_kind : MethodName := ⟨RX8, "kind", "()I"⟩
abbrev cX8_start : ByteArray := prog_10_method_5_code
def yX8_start : MethodName := ⟨RX8, "start", "()I"⟩
abbrev cX8_advance : ByteArray := prog_10_method_8_code
def yX8_advance : MethodName := ⟨RX8, "advance", "()V"⟩
abbrev cX8_scan : ByteArray := prog_10_method_9_code
def yX8_scan : MethodName := ⟨RX8, "scan", "()V"⟩
def RX9 : String := "ThreeMills$Teller"
def TX9 : u_T := fun k => match k with
  | 0 => ("ThreeMills$Teller", "ink", "LThreeMills$Ink;", true)
  | 1 => ("ThreeMills$Teller", "program", "LThreeMills$Program;", false)
  | 2 => ("ThreeMills$Teller", "types", "LThreeMills$Types;", false)
  | 3 => ("ThreeMills$Teller", "bindings", "LThreeMills$Bindings;", false)
  | 4 => ("ThreeMills$Teller", "mill", "I", false)
  | _ => ("ThreeMills$Teller", "teller", "I", false)
def tyX9 : Nat → FieldType := fun k => match k with
  | 0 => .object "ThreeMills$Ink"
  | 1 => .object "ThreeMills$Program"
  | 2 => .object "ThreeMills$Types"
  | 3 => .object "ThreeMills$Bindings"
  | 4 => .int
  | _ => .int
abbrev wsX90 : List Cond := u_ws RX9 TX9 6
theorem nmX9 : ∀ a, a < 6 → ∀ b, b < 6 → a ≠ b → (TX9 a).2.1 ≠ (TX9 b).2.1 := by decide +kernel
theorem tyX9_ok : ∀ k, k < 6 → parseFieldDescriptor (TX9 k).2.2.1 = some (tyX9 k) := by decide +kernel
abbrev cX9_init : ByteArray := prog_11_method_1_code
def yX9_init : MethodName := ⟨RX9, "<init>", "(LThreeMills$Program;LThreeMills$Ink;)V"⟩
def RX10 : String := "ThreeMills$Types"
def TX10 : u_T := fun k => match k with
  | 0 => ("ThreeMills$Types", "kinds", "[I", true)
  | 1 => ("ThreeMills$Types", "lefts", "[I", true)
  | 2 => ("ThreeMills$Types", "rights", "[I", true)
  | 3 => ("ThreeMills$Types", "sizes", "[I", true)
  | 4 => ("ThreeMills$Types", "numbers", "[I", true)
  | 5 => ("ThreeMills$Types", "members", "[I", true)
  | 6 => ("ThreeMills$Types", "stack", "[I", true)
  | 7 => ("ThreeMills$Types", "made", "I", false)
  | _ => ("ThreeMills$Types", "numbered", "I", false)
def tyX10 : Nat → FieldType := fun k => match k with
  | 0 => .array .int
  | 1 => .array .int
  | 2 => .array .int
  | 3 => .array .int
  | 4 => .array .int
  | 5 => .array .int
  | 6 => .array .int
  | 7 => .int
  | _ => .int
abbrev wsX100 : List Cond := u_ws RX10 TX10 9
theorem nmX10 : ∀ a, a < 9 → ∀ b, b < 9 → a ≠ b → (TX10 a).2.1 ≠ (TX10 b).2.1 := by decide +kernel
theorem tyX10_ok : ∀ k, k < 9 → parseFieldDescriptor (TX10 k).2.2.1 = some (tyX10 k) := by decide +kernel
abbrev cX10_init : ByteArray := prog_12_method_1_code
def yX10_init : MethodName := ⟨RX10, "<init>", "()V"⟩
abbrev cX10_clear : ByteArray := prog_12_method_2_code
def yX10_clear : MethodName := ⟨RX10, "clear", "()V"⟩
abbrev cX10_add : ByteArray := prog_12_method_13_code
def yX10_add : MethodName := ⟨RX10, "add", "(IIII)I"⟩
def RX11 : String := "ThreeMills"
def TX11 : u_T := fun k => match k with
  | 0 => ("ThreeMills", "tape", "[B", true)
  | 1 => ("ThreeMills", "fed", "I", false)
  | 2 => ("ThreeMills", "out", "LThreeMills$Ink;", true)
  | 3 => ("ThreeMills", "current", "LThreeMills$Program;", false)
  | 4 => ("ThreeMills", "spare", "LThreeMills$Program;", false)
  | 5 => ("ThreeMills", "loaded", "Z", false)
  | 6 => ("ThreeMills", "refusal", "I", false)
  | 7 => ("ThreeMills", "refusedAt", "I", false)
  | 8 => ("ThreeMills", "parser", "LThreeMills$Parser;", true)
  | 9 => ("ThreeMills", "checker", "LThreeMills$Checker;", true)
  | 10 => ("ThreeMills", "finder", "LThreeMills$Needs;", true)
  | 11 => ("ThreeMills", "teller", "LThreeMills$Teller;", true)
  | 12 => ("ThreeMills", "coder", "LThreeMills$Coder;", true)
  | _ => ("ThreeMills", "machine", "LThreeMills$Machine;", true)
def tyX11 : Nat → FieldType := fun k => match k with
  | 0 => .array .byte
  | 1 => .int
  | 2 => .object "ThreeMills$Ink"
  | 3 => .object "ThreeMills$Program"
  | 4 => .object "ThreeMills$Program"
  | 5 => .boolean
  | 6 => .int
  | 7 => .int
  | 8 => .object "ThreeMills$Parser"
  | 9 => .object "ThreeMills$Checker"
  | 10 => .object "ThreeMills$Needs"
  | 11 => .object "ThreeMills$Teller"
  | 12 => .object "ThreeMills$Coder"
  | _ => .object "ThreeMills$Machine"
abbrev wsX110 : List Cond := u_ws RX11 TX11 14
theorem nmX11 : ∀ a, a < 14 → ∀ b, b < 14 → a ≠ b → (TX11 a).2.1 ≠ (TX11 b).2.1 := by decide +kernel
theorem tyX11_ok : ∀ k, k < 14 → parseFieldDescriptor (TX11 k).2.2.1 = some (tyX11 k) := by decide +kernel
abbrev cX11_init : ByteArray := prog_1_method_1_code
def yX11_init : MethodName := ⟨RX11, "<init>", "()V"⟩
abbrev cX11_feed : ByteArray := prog_1_method_2_code
def yX11_feed : MethodName := ⟨RX11, "feed", "(IIIII)I"⟩
abbrev cX11_program : ByteArray := prog_1_method_3_code
def yX11_program : MethodName := ⟨RX11, "program", "(I)I"⟩
abbrev cX11_fault : ByteArray := prog_1_method_4_code
def yX11_fault : MethodName := ⟨RX11, "fault", "(I)I"⟩
abbrev cX11_count : ByteArray := prog_1_method_5_code
def yX11_count : MethodName := ⟨RX11, "count", "(I)I"⟩
abbrev cX11_function : ByteArray := prog_1_method_6_code
def yX11_function : MethodName := ⟨RX11, "function", "(II)I"⟩
abbrev cX11_needs : ByteArray := prog_1_method_7_code
def yX11_needs : MethodName := ⟨RX11, "needs", "(IIZ)I"⟩
abbrev cX11_text : ByteArray := prog_1_method_8_code
def yX11_text : MethodName := ⟨RX11, "text", "(I)I"⟩
abbrev cX11_type : ByteArray := prog_1_method_9_code
def yX11_type : MethodName := ⟨RX11, "type", "()I"⟩
abbrev cX11_run : ByteArray := prog_1_method_10_code
def yX11_run : MethodName := ⟨RX11, "run", "(II)I"⟩
abbrev cX11_cost : ByteArray := prog_1_method_11_code
def yX11_cost : MethodName := ⟨RX11, "cost", "(I)I"⟩
abbrev cX11_answer : ByteArray := prog_1_method_12_code
def yX11_answer : MethodName := ⟨RX11, "answer", "()I"⟩
abbrev cX11_told : ByteArray := prog_1_method_13_code
def yX11_told : MethodName := ⟨RX11, "told", "(I)I"⟩
abbrev cX11_feedNumber : ByteArray := prog_1_method_14_code
def yX11_feedNumber : MethodName := ⟨RX11, "feedNumber", "(I)V"⟩
abbrev cX11_isFunction : ByteArray := prog_1_method_15_code
def yX11_isFunction : MethodName := ⟨RX11, "isFunction", "(I)Z"⟩
abbrev cX11_at : ByteArray := prog_1_method_17_code
def yX11_at : MethodName := ⟨RX11, "at", "([II)I"⟩
abbrev cX11_put : ByteArray := prog_1_method_18_code
def yX11_put : MethodName := ⟨RX11, "put", "([III)V"⟩
def RX12 : String := "ThreeMillsModel"
def TX12 : u_T := fun k => match k with
  | 0 => ("ThreeMillsModel", "words", "[Ljava/lang/String;", true)
  | 1 => ("ThreeMillsModel", "code", "I", false)
  | 2 => ("ThreeMillsModel", "tape", "[I", true)
  | 3 => ("ThreeMillsModel", "text", "[I", true)
  | 4 => ("ThreeMillsModel", "good", "[I", true)
  | 5 => ("ThreeMillsModel", "taped", "I", false)
  | 6 => ("ThreeMillsModel", "size", "I", false)
  | 7 => ("ThreeMillsModel", "goodSize", "I", false)
  | 8 => ("ThreeMillsModel", "at", "I", false)
  | 9 => ("ThreeMillsModel", "hasProgram", "Z", false)
  | 10 => ("ThreeMillsModel", "token", "I", false)
  | 11 => ("ThreeMillsModel", "sign", "I", false)
  | 12 => ("ThreeMillsModel", "word", "I", false)
  | 13 => ("ThreeMillsModel", "begins", "I", false)
  | 14 => ("ThreeMillsModel", "ends", "I", false)
  | 15 => ("ThreeMillsModel", "bad", "I", false)
  | 16 => ("ThreeMillsModel", "badPlace", "I", false)
  | 17 => ("ThreeMillsModel", "fault", "I", false)
  | 18 => ("ThreeMillsModel", "faultPlace", "I", false)
  | 19 => ("ThreeMillsModel", "nodes", "I", false)
  | 20 => ("ThreeMillsModel", "root", "I", false)
  | 21 => ("ThreeMillsModel", "kind", "[I", true)
  | 22 => ("ThreeMillsModel", "one", "[I", true)
  | 23 => ("ThreeMillsModel", "two", "[I", true)
  | 24 => ("ThreeMillsModel", "three", "[I", true)
  | 25 => ("ThreeMillsModel", "first", "[I", true)
  | 26 => ("ThreeMillsModel", "place", "[I", true)
  | 27 => ("ThreeMillsModel", "typeOf", "[I", true)
  | 28 => ("ThreeMillsModel", "isWrapped", "[Z", true)
  | 29 => ("ThreeMillsModel", "variables", "I", false)
  | 30 => ("ThreeMillsModel", "nameAt", "[I", true)
  | 31 => ("ThreeMillsModel", "nameLong", "[I", true)
  | 32 => ("ThreeMillsModel", "knows", "[I", true)
  | 33 => ("ThreeMillsModel", "variableType", "[I", true)
  | 34 => ("ThreeMillsModel", "functions", "I", false)
  | 35 => ("ThreeMillsModel", "nodeOf", "[I", true)
  | 36 => ("ThreeMillsModel", "parameter", "[I", true)
  | 37 => ("ThreeMillsModel", "own", "[I", true)
  | 38 => ("ThreeMillsModel", "known", "[I", true)
  | 39 => ("ThreeMillsModel", "bodyOf", "[I", true)
  | 40 => ("ThreeMillsModel", "functionType", "[I", true)
  | 41 => ("ThreeMillsModel", "freeCount", "[I", true)
  | 42 => ("ThreeMillsModel", "extraCount", "[I", true)
  | 43 => ("ThreeMillsModel", "free", "[I", true)
  | 44 => ("ThreeMillsModel", "extra", "[I", true)
  | 45 => ("ThreeMillsModel", "needs0", "[Z", true)
  | 46 => ("ThreeMillsModel", "bindsIn", "[Z", true)
  | 47 => ("ThreeMillsModel", "kinds", "I", false)
  | 48 => ("ThreeMillsModel", "kindType", "[I", true)
  | 49 => ("ThreeMillsModel", "kindOf", "[I", true)
  | 50 => ("ThreeMillsModel", "types", "I", false)
  | 51 => ("ThreeMillsModel", "typeKind", "[I", true)
  | 52 => ("ThreeMillsModel", "typeA", "[I", true)
  | 53 => ("ThreeMillsModel", "typeB", "[I", true)
  | 54 => ("ThreeMillsModel", "typeSize", "[J", true)
  | 55 => ("ThreeMillsModel", "scope", "[I", true)
  | 56 => ("ThreeMillsModel", "scopes", "I", false)
  | 57 => ("ThreeMillsModel", "lifeCalls", "I", false)
  | 58 => ("ThreeMillsModel", "lifeValues", "I", false)
  | 59 => ("ThreeMillsModel", "mill", "I", false)
  | 60 => ("ThreeMillsModel", "limit", "I", false)
  | 61 => ("ThreeMillsModel", "calls", "I", false)
  | 62 => ("ThreeMillsModel", "values", "I", false)
  | 63 => ("ThreeMillsModel", "third", "I", false)
  | 64 => ("ThreeMillsModel", "opened", "I", false)
  | 65 => ("ThreeMillsModel", "ended", "I", false)
  | 66 => ("ThreeMillsModel", "ranHow", "I", false)
  | 67 => ("ThreeMillsModel", "answerTag", "I", false)
  | 68 => ("ThreeMillsModel", "answerValue", "I", false)
  | 69 => ("ThreeMillsModel", "hasAnswer", "Z", false)
  | 70 => ("ThreeMillsModel", "slotTag", "[I", true)
  | 71 => ("ThreeMillsModel", "slotValue", "[I", true)
  | 72 => ("ThreeMillsModel", "valueKind", "[I", true)
  | 73 => ("ThreeMillsModel", "valueTag", "[I", true)
  | 74 => ("ThreeMillsModel", "valueValue", "[I", true)
  | 75 => ("ThreeMillsModel", "tag", "I", false)
  | 76 => ("ThreeMillsModel", "value", "I", false)
  | 77 => ("ThreeMillsModel", "frameOf", "[I", true)
  | 78 => ("ThreeMillsModel", "out", "[I", true)
  | 79 => ("ThreeMillsModel", "outs", "I", false)
  | _ => ("ThreeMillsModel", "linkRow", "[I", true)
def tyX12 : Nat → FieldType := fun k => match k with
  | 0 => .array (.object "java/lang/String")
  | 1 => .int
  | 2 => .array .int
  | 3 => .array .int
  | 4 => .array .int
  | 5 => .int
  | 6 => .int
  | 7 => .int
  | 8 => .int
  | 9 => .boolean
  | 10 => .int
  | 11 => .int
  | 12 => .int
  | 13 => .int
  | 14 => .int
  | 15 => .int
  | 16 => .int
  | 17 => .int
  | 18 => .int
  | 19 => .int
  | 20 => .int
  | 21 => .array .int
  | 22 => .array .int
  | 23 => .array .int
  | 24 => .array .int
  | 25 => .array .int
  | 26 => .array .int
  | 27 => .array .int
  | 28 => .array .boolean
  | 29 => .int
  | 30 => .array .int
  | 31 => .array .int
  | 32 => .array .int
  | 33 => .array .int
  | 34 => .int
  | 35 => .array .int
  | 36 => .array .int
  | 37 => .array .int
  | 38 => .array .int
  | 39 => .array .int
  | 40 => .array .int
  | 41 => .array .int
  | 42 => .array .int
  | 43 => .array .int
  | 44 => .array .int
  | 45 => .array .boolean
  | 46 => .array .boolean
  | 47 => .int
  | 48 => .array .int
  | 49 => .array .int
  | 50 => .int
  | 51 => .array .int
  | 52 => .array .int
  | 53 => .array .int
  | 54 => .array .long
  | 55 => .array .int
  | 56 => .int
  | 57 => .int
  | 58 => .int
  | 59 => .int
  | 60 => .int
  | 61 => .int
  | 62 => .int
  | 63 => .int
  | 64 => .int
  | 65 => .int
  | 66 => .int
  | 67 => .int
  | 68 => .int
  | 69 => .boolean
  | 70 => .array .int
  | 71 => .array .int
  | 72 => .array .int
  | 73 => .array .int
  | 74 => .array .int
  | 75 => .int
  | 76 => .int
  | 77 => .array .int
  | 78 => .array .int
  | 79 => .int
  | _ => .array .int
abbrev wsX120 : List Cond := u_ws RX12 TX12 81
theorem nmX12 : ∀ a, a < 81 → ∀ b, b < 81 → a ≠ b → (TX12 a).2.1 ≠ (TX12 b).2.1 := by decide +kernel
theorem tyX12_ok : ∀ k, k < 81 → parseFieldDescriptor (TX12 k).2.2.1 = some (tyX12 k) := by decide +kernel
abbrev cX12_init : ByteArray := prog_14_method_1_code
def yX12_init : MethodName := ⟨RX12, "<init>", "()V"⟩
abbrev cX12_thrown : ByteArray := prog_14_method_2_code
def yX12_thrown : MethodName := ⟨RX12, "thrown", "()I"⟩
abbrev cX12_fail : ByteArray := prog_14_method_3_code
def yX12_fail : MethodName := ⟨RX12, "fail", "()I"⟩
abbrev cX12_wrong : ByteArray := prog_14_method_4_code
def yX12_wrong : MethodName := ⟨RX12, "wrong", "(II)V"⟩
abbrev cX12_byteAt : ByteArray := prog_14_method_5_code
def yX12_byteAt : MethodName := ⟨RX12, "byteAt", "(I)I"⟩
abbrev cX12_next : ByteArray := prog_14_method_9_code
def yX12_next : MethodName := ⟨RX12, "next", "()V"⟩
abbrev cX12_isSign : ByteArray := prog_14_method_11_code
def yX12_isSign : MethodName := ⟨RX12, "isSign", "(I)Z"⟩
abbrev cX12_is : ByteArray := prog_14_method_12_code
def yX12_is : MethodName := ⟨RX12, "is", "(I)Z"⟩
abbrev cX12_cant : ByteArray := prog_14_method_13_code
def yX12_cant : MethodName := ⟨RX12, "cant", "()V"⟩
abbrev cX12_beginsAtom : ByteArray := prog_14_method_18_code
def yX12_beginsAtom : MethodName := ⟨RX12, "beginsAtom", "()Z"⟩
abbrev cX12_beginsExpression : ByteArray := prog_14_method_19_code
def yX12_beginsExpression : MethodName := ⟨RX12, "beginsExpression", "()Z"⟩
abbrev cX12_readExpression : ByteArray := prog_14_method_20_code
def yX12_readExpression : MethodName := ⟨RX12, "readExpression", "(I)I"⟩
abbrev cX12_analyse : ByteArray := prog_14_method_54_code
def yX12_analyse : MethodName := ⟨RX12, "analyse", "()V"⟩
abbrev cX12_program : ByteArray := prog_14_method_55_code
def yX12_program : MethodName := ⟨RX12, "program", "(I)I"⟩
abbrev cX12_feed : ByteArray := prog_14_method_56_code
def yX12_feed : MethodName := ⟨RX12, "feed", "(IIIII)I"⟩
abbrev cX12_fault : ByteArray := prog_14_method_57_code
def yX12_fault : MethodName := ⟨RX12, "fault", "(I)I"⟩
abbrev cX12_count : ByteArray := prog_14_method_58_code
def yX12_count : MethodName := ⟨RX12, "count", "(I)I"⟩
abbrev cX12_function : ByteArray := prog_14_method_59_code
def yX12_function : MethodName := ⟨RX12, "function", "(II)I"⟩
abbrev cX12_needs : ByteArray := prog_14_method_60_code
def yX12_needs : MethodName := ⟨RX12, "needs", "(IIZ)I"⟩
abbrev cX12_text : ByteArray := prog_14_method_74_code
def yX12_text : MethodName := ⟨RX12, "text", "(I)I"⟩
abbrev cX12_type : ByteArray := prog_14_method_77_code
def yX12_type : MethodName := ⟨RX12, "type", "()I"⟩
abbrev cX12_run : ByteArray := prog_14_method_93_code
def yX12_run : MethodName := ⟨RX12, "run", "(II)I"⟩
abbrev cX12_cost : ByteArray := prog_14_method_94_code
def yX12_cost : MethodName := ⟨RX12, "cost", "(I)I"⟩
abbrev cX12_answer : ByteArray := prog_14_method_96_code
def yX12_answer : MethodName := ⟨RX12, "answer", "()I"⟩
abbrev cX12_told : ByteArray := prog_14_method_97_code
def yX12_told : MethodName := ⟨RX12, "told", "(I)I"⟩
def RJ0 : String := "java/lang/String"
def RL : String := "ThreeMillsLaw"
abbrev cL_program : ByteArray := method_3_code
def yL_program : MethodName := ⟨RL, "program", "(LThreeMills;I[J)I"⟩
abbrev cL_fault : ByteArray := method_4_code
def yL_fault : MethodName := ⟨RL, "fault", "(LThreeMills;I[J)I"⟩
abbrev cL_count : ByteArray := method_5_code
def yL_count : MethodName := ⟨RL, "count", "(LThreeMills;I[J)I"⟩
abbrev cL_function : ByteArray := method_6_code
def yL_function : MethodName := ⟨RL, "function", "(LThreeMills;II[J)I"⟩
abbrev cL_needs : ByteArray := method_7_code
def yL_needs : MethodName := ⟨RL, "needs", "(LThreeMills;IIZ[J)I"⟩
abbrev cL_cost : ByteArray := method_8_code
def yL_cost : MethodName := ⟨RL, "cost", "(LThreeMills;I[J)I"⟩
abbrev cL_told : ByteArray := method_9_code
def yL_told : MethodName := ⟨RL, "told", "(LThreeMills;I[J)I"⟩
abbrev cL_law : ByteArray := code
theorem dX0_init_0 : decode cX0_init 0 = .ok (.aload_n 0, 1) := by decide +kernel
theorem dX0_init_1 : decode cX0_init 1 = .ok (.invokespecial 3, 3) := by decide +kernel
theorem dX0_init_4 : decode cX0_init 4 = .ok (.aload_n 0, 1) := by decide +kernel
theorem dX0_init_5 : decode cX0_init 5 = .ok (.bipush 100, 2) := by decide +kernel
theorem dX0_init_7 : decode cX0_init 7 = .ok (.newarray .int, 2) := by decide +kernel
theorem dX0_init_9 : decode cX0_init 9 = .ok (.putfield 11, 3) := by decide +kernel
theorem dX0_init_12 : decode cX0_init 12 = .ok (.aload_n 0, 1) := by decide +kernel
theorem dX0_init_13 : decode cX0_init 13 = .ok (.bipush 100, 2) := by decide +kernel
theorem dX0_init_15 : decode cX0_init 15 = .ok (.newarray .int, 2) := by decide +kernel
theorem dX0_init_17 : decode cX0_init 17 = .ok (.putfield 15, 3) := by decide +kernel
theorem dX0_init_20 : decode cX0_init 20 = .ok (.aload_n 0, 1) := by decide +kernel
theorem dX0_init_21 : decode cX0_init 21 = .ok (.bipush 100, 2) := by decide +kernel
theorem dX0_init_23 : decode cX0_init 23 = .ok (.newarray .int, 2) := by decide +kernel
theorem dX0_init_25 : decode cX0_init 25 = .ok (.putfield 18, 3) := by decide +kernel
theorem dX0_init_28 : decode cX0_init 28 = .ok (.aload_n 0, 1) := by decide +kernel
theorem dX0_init_29 : decode cX0_init 29 = .ok (.bipush 100, 2) := by decide +kernel
theorem dX0_init_31 : decode cX0_init 31 = .ok (.newarray .int, 2) := by decide +kernel
theorem dX0_init_33 : decode cX0_init 33 = .ok (.putfield 21, 3) := by decide +kernel
theorem dX0_init_36 : decode cX0_init 36 = .ok (.aload_n 0, 1) := by decide +kernel
theorem dX0_init_37 : decode cX0_init 37 = .ok (.bipush 100, 2) := by decide +kernel
theorem dX0_init_39 : decode cX0_init 39 = .ok (.newarray .int, 2) := by decide +kernel
theorem dX0_init_41 : decode cX0_init 41 = .ok (.putfield 24, 3) := by decide +kernel
theorem dX0_init_44 : decode cX0_init 44 = .ok (.aload_n 0, 1) := by decide +kernel
theorem dX0_init_45 : decode cX0_init 45 = .ok (.iconst 0, 1) := by decide +kernel
theorem dX0_init_46 : decode cX0_init 46 = .ok (.putfield 27, 3) := by decide +kernel
theorem dX0_init_49 : decode cX0_init 49 = .ok (.aload_n 0, 1) := by decide +kernel
theorem dX0_init_50 : decode cX0_init 50 = .ok (.bipush 40, 2) := by decide +kernel
theorem dX0_init_52 : decode cX0_init 52 = .ok (.newarray .int, 2) := by decide +kernel
theorem dX0_init_54 : decode cX0_init 54 = .ok (.putfield 31, 3) := by decide +kernel
theorem dX0_init_57 : decode cX0_init 57 = .ok (.aload_n 0, 1) := by decide +kernel
theorem dX0_init_58 : decode cX0_init 58 = .ok (.bipush 40, 2) := by decide +kernel
theorem dX0_init_60 : decode cX0_init 60 = .ok (.newarray .int, 2) := by decide +kernel
theorem dX0_init_62 : decode cX0_init 62 = .ok (.putfield 34, 3) := by decide +kernel
theorem dX0_init_65 : decode cX0_init 65 = .ok (.aload_n 0, 1) := by decide +kernel
theorem dX0_init_66 : decode cX0_init 66 = .ok (.bipush 40, 2) := by decide +kernel
theorem dX0_init_68 : decode cX0_init 68 = .ok (.newarray .int, 2) := by decide +kernel
theorem dX0_init_70 : decode cX0_init 70 = .ok (.putfield 37, 3) := by decide +kernel
theorem dX0_init_73 : decode cX0_init 73 = .ok (.aload_n 0, 1) := by decide +kernel
theorem dX0_init_74 : decode cX0_init 74 = .ok (.bipush 40, 2) := by decide +kernel
theorem dX0_init_76 : decode cX0_init 76 = .ok (.newarray .int, 2) := by decide +kernel
theorem dX0_init_78 : decode cX0_init 78 = .ok (.putfield 40, 3) := by decide +kernel
theorem dX0_init_81 : decode cX0_init 81 = .ok (.aload_n 0, 1) := by decide +kernel
theorem dX0_init_82 : decode cX0_init 82 = .ok (.bipush 40, 2) := by decide +kernel
theorem dX0_init_84 : decode cX0_init 84 = .ok (.newarray .int, 2) := by decide +kernel
theorem dX0_init_86 : decode cX0_init 86 = .ok (.putfield 43, 3) := by decide +kernel
theorem dX0_init_89 : decode cX0_init 89 = .ok (.aload_n 0, 1) := by decide +kernel
theorem dX0_init_90 : decode cX0_init 90 = .ok (.bipush 40, 2) := by decide +kernel
theorem dX0_init_92 : decode cX0_init 92 = .ok (.newarray .int, 2) := by decide +kernel
theorem dX0_init_94 : decode cX0_init 94 = .ok (.putfield 46, 3) := by decide +kernel
theorem dX0_init_97 : decode cX0_init 97 = .ok (.aload_n 0, 1) := by decide +kernel
theorem dX0_init_98 : decode cX0_init 98 = .ok (.bipush 40, 2) := by decide +kernel
theorem dX0_init_100 : decode cX0_init 100 = .ok (.newarray .int, 2) := by decide +kernel
theorem dX0_init_102 : decode cX0_init 102 = .ok (.putfield 49, 3) := by decide +kernel
theorem dX0_init_105 : decode cX0_init 105 = .ok (.aload_n 0, 1) := by decide +kernel
theorem dX0_init_106 : decode cX0_init 106 = .ok (.bipush 40, 2) := by decide +kernel
theorem dX0_init_108 : decode cX0_init 108 = .ok (.newarray .int, 2) := by decide +kernel
theorem dX0_init_110 : decode cX0_init 110 = .ok (.putfield 52, 3) := by decide +kernel
theorem dX0_init_113 : decode cX0_init 113 = .ok (.aload_n 0, 1) := by decide +kernel
theorem dX0_init_114 : decode cX0_init 114 = .ok (.iconst 0, 1) := by decide +kernel
theorem dX0_init_115 : decode cX0_init 115 = .ok (.putfield 55, 3) := by decide +kernel
theorem dX0_init_118 : decode cX0_init 118 = .ok (.aload_n 0, 1) := by decide +kernel
theorem dX0_init_119 : decode cX0_init 119 = .ok (.sipush 4000, 3) := by decide +kernel
theorem dX0_init_122 : decode cX0_init 122 = .ok (.newarray .int, 2) := by decide +kernel
theorem dX0_init_124 : decode cX0_init 124 = .ok (.putfield 58, 3) := by decide +kernel
theorem dX0_init_127 : decode cX0_init 127 = .ok (.aload_n 0, 1) := by decide +kernel
theorem dX0_init_128 : decode cX0_init 128 = .ok (.bipush 40, 2) := by decide +kernel
theorem dX0_init_130 : decode cX0_init 130 = .ok (.newarray .int, 2) := by decide +kernel
theorem dX0_init_132 : decode cX0_init 132 = .ok (.putfield 61, 3) := by decide +kernel
theorem dX0_init_135 : decode cX0_init 135 = .ok (.aload_n 0, 1) := by decide +kernel
theorem dX0_init_136 : decode cX0_init 136 = .ok (.sipush 4000, 3) := by decide +kernel
theorem dX0_init_139 : decode cX0_init 139 = .ok (.newarray .int, 2) := by decide +kernel
theorem dX0_init_141 : decode cX0_init 141 = .ok (.putfield 64, 3) := by decide +kernel
theorem dX0_init_144 : decode cX0_init 144 = .ok (.aload_n 0, 1) := by decide +kernel
theorem dX0_init_145 : decode cX0_init 145 = .ok (.bipush 40, 2) := by decide +kernel
theorem dX0_init_147 : decode cX0_init 147 = .ok (.newarray .int, 2) := by decide +kernel
theorem dX0_init_149 : decode cX0_init 149 = .ok (.putfield 67, 3) := by decide +kernel
theorem dX0_init_152 : decode cX0_init 152 = .ok (.return_, 1) := by decide +kernel
theorem dX0_clear_0 : decode cX0_clear 0 = .ok (.aload_n 0, 1) := by decide +kernel
theorem dX0_clear_1 : decode cX0_clear 1 = .ok (.iconst 0, 1) := by decide +kernel
theorem dX0_clear_2 : decode cX0_clear 2 = .ok (.putfield 27, 3) := by decide +kernel
theorem dX0_clear_5 : decode cX0_clear 5 = .ok (.aload_n 0, 1) := by decide +kernel
theorem dX0_clear_6 : decode cX0_clear 6 = .ok (.iconst 0, 1) := by decide +kernel
theorem dX0_clear_7 : decode cX0_clear 7 = .ok (.putfield 55, 3) := by decide +kernel
theorem dX0_clear_10 : decode cX0_clear 10 = .ok (.return_, 1) := by decide +kernel
theorem dX1_init_0 : decode cX1_init 0 = .ok (.aload_n 0, 1) := by decide +kernel
theorem dX1_init_1 : decode cX1_init 1 = .ok (.invokespecial 3, 3) := by decide +kernel
theorem dX1_init_4 : decode cX1_init 4 = .ok (.aload_n 0, 1) := by decide +kernel
theorem dX1_init_5 : decode cX1_init 5 = .ok (.aload_n 1, 1) := by decide +kernel
theorem dX1_init_6 : decode cX1_init 6 = .ok (.putfield 9, 3) := by decide +kernel
theorem dX1_init_9 : decode cX1_init 9 = .ok (.aload_n 0, 1) := by decide +kernel
theorem dX1_init_10 : decode cX1_init 10 = .ok (.aload_n 1, 1) := by decide +kernel
theorem dX1_init_11 : decode cX1_init 11 = .ok (.invokevirtual 15, 3) := by decide +kernel
theorem dX1_init_14 : decode cX1_init 14 = .ok (.putfield 21, 3) := by decide +kernel
theorem dX1_init_17 : decode cX1_init 17 = .ok (.aload_n 0, 1) := by decide +kernel
theorem dX1_init_18 : decode cX1_init 18 = .ok (.aload_n 1, 1) := by decide +kernel
theorem dX1_init_19 : decode cX1_init 19 = .ok (.invokevirtual 24, 3) := by decide +kernel
theorem dX1_init_22 : decode cX1_init 22 = .ok (.putfield 28, 3) := by decide +kernel
theorem dX1_init_25 : decode cX1_init 25 = .ok (.return_, 1) := by decide +kernel
theorem dX2_init_0 : decode cX2_init 0 = .ok (.aload_n 0, 1) := by decide +kernel
theorem dX2_init_1 : decode cX2_init 1 = .ok (.invokespecial 7, 3) := by decide +kernel
theorem dX2_init_4 : decode cX2_init 4 = .ok (.aload_n 0, 1) := by decide +kernel
theorem dX2_init_5 : decode cX2_init 5 = .ok (.sipush 12080, 3) := by decide +kernel
theorem dX2_init_8 : decode cX2_init 8 = .ok (.newarray .int, 2) := by decide +kernel
theorem dX2_init_10 : decode cX2_init 10 = .ok (.putfield 15, 3) := by decide +kernel
theorem dX2_init_13 : decode cX2_init 13 = .ok (.aload_n 0, 1) := by decide +kernel
theorem dX2_init_14 : decode cX2_init 14 = .ok (.sipush 12080, 3) := by decide +kernel
theorem dX2_init_17 : decode cX2_init 17 = .ok (.newarray .int, 2) := by decide +kernel
theorem dX2_init_19 : decode cX2_init 19 = .ok (.putfield 19, 3) := by decide +kernel
theorem dX2_init_22 : decode cX2_init 22 = .ok (.aload_n 0, 1) := by decide +kernel
theorem dX2_init_23 : decode cX2_init 23 = .ok (.bipush 40, 2) := by decide +kernel
theorem dX2_init_25 : decode cX2_init 25 = .ok (.newarray .int, 2) := by decide +kernel
theorem dX2_init_27 : decode cX2_init 27 = .ok (.putfield 22, 3) := by decide +kernel
theorem dX2_init_30 : decode cX2_init 30 = .ok (.aload_n 0, 1) := by decide +kernel
theorem dX2_init_31 : decode cX2_init 31 = .ok (.iconst 0, 1) := by decide +kernel
theorem dX2_init_32 : decode cX2_init 32 = .ok (.putfield 25, 3) := by decide +kernel
theorem dX2_init_35 : decode cX2_init 35 = .ok (.aload_n 0, 1) := by decide +kernel
theorem dX2_init_36 : decode cX2_init 36 = .ok (.aload_n 1, 1) := by decide +kernel
theorem dX2_init_37 : decode cX2_init 37 = .ok (.putfield 29, 3) := by decide +kernel
theorem dX2_init_40 : decode cX2_init 40 = .ok (.aload_n 0, 1) := by decide +kernel
theorem dX2_init_41 : decode cX2_init 41 = .ok (.aload_n 1, 1) := by decide +kernel
theorem dX2_init_42 : decode cX2_init 42 = .ok (.invokevirtual 33, 3) := by decide +kernel
theorem dX2_init_45 : decode cX2_init 45 = .ok (.putfield 37, 3) := by decide +kernel
theorem dX2_init_48 : decode cX2_init 48 = .ok (.aload_n 0, 1) := by decide +kernel
theorem dX2_init_49 : decode cX2_init 49 = .ok (.iconst 0, 1) := by decide +kernel
theorem dX2_init_50 : decode cX2_init 50 = .ok (.putfield 40, 3) := by decide +kernel
theorem dX2_init_53 : decode cX2_init 53 = .ok (.aload_n 0, 1) := by decide +kernel
theorem dX2_init_54 : decode cX2_init 54 = .ok (.iconst (-1), 1) := by decide +kernel
theorem dX2_init_55 : decode cX2_init 55 = .ok (.putfield 43, 3) := by decide +kernel
theorem dX2_init_58 : decode cX2_init 58 = .ok (.return_, 1) := by decide +kernel
theorem dX3_init_0 : decode cX3_init 0 = .ok (.aload_n 0, 1) := by decide +kernel
theorem dX3_init_1 : decode cX3_init 1 = .ok (.invokespecial 3, 3) := by decide +kernel
theorem dX3_init_4 : decode cX3_init 4 = .ok (.aload_n 0, 1) := by decide +kernel
theorem dX3_init_5 : decode cX3_init 5 = .ok (.iload_n 1, 1) := by decide +kernel
theorem dX3_init_6 : decode cX3_init 6 = .ok (.ifCond .le 7, 3) := by decide +kernel
theorem dX3_init_9 : decode cX3_init 9 = .ok (.iload_n 1, 1) := by decide +kernel
theorem dX3_init_10 : decode cX3_init 10 = .ok (.goto 4, 3) := by decide +kernel
theorem dX3_init_14 : decode cX3_init 14 = .ok (.newarray .byte, 2) := by decide +kernel
theorem dX3_init_16 : decode cX3_init 16 = .ok (.putfield 9, 3) := by decide +kernel
theorem dX3_init_19 : decode cX3_init 19 = .ok (.aload_n 0, 1) := by decide +kernel
theorem dX3_init_20 : decode cX3_init 20 = .ok (.iconst 0, 1) := by decide +kernel
theorem dX3_init_21 : decode cX3_init 21 = .ok (.putfield 15, 3) := by decide +kernel
theorem dX3_init_24 : decode cX3_init 24 = .ok (.return_, 1) := by decide +kernel
theorem dX3_clear_0 : decode cX3_clear 0 = .ok (.aload_n 0, 1) := by decide +kernel
theorem dX3_clear_1 : decode cX3_clear 1 = .ok (.iconst 0, 1) := by decide +kernel
theorem dX3_clear_2 : decode cX3_clear 2 = .ok (.putfield 15, 3) := by decide +kernel
theorem dX3_clear_5 : decode cX3_clear 5 = .ok (.return_, 1) := by decide +kernel
theorem dX3_length_0 : decode cX3_length 0 = .ok (.aload_n 0, 1) := by decide +kernel
theorem dX3_length_1 : decode cX3_length 1 = .ok (.getfield 15, 3) := by decide +kernel
theorem dX3_length_4 : decode cX3_length 4 = .ok (.ireturn, 1) := by decide +kernel
theorem dX3_keeps_0 : decode cX3_keeps 0 = .ok (.iload_n 1, 1) := by decide +kernel
theorem dX3_keeps_1 : decode cX3_keeps 1 = .ok (.ifCond .lt 24, 3) := by decide +kernel
theorem dX3_keeps_4 : decode cX3_keeps 4 = .ok (.iload_n 1, 1) := by decide +kernel
theorem dX3_keeps_5 : decode cX3_keeps 5 = .ok (.aload_n 0, 1) := by decide +kernel
theorem dX3_keeps_6 : decode cX3_keeps 6 = .ok (.getfield 15, 3) := by decide +kernel
theorem dX3_keeps_9 : decode cX3_keeps 9 = .ok (.if_icmp .ge 16, 3) := by decide +kernel
theorem dX3_keeps_25 : decode cX3_keeps 25 = .ok (.iconst 0, 1) := by decide +kernel
theorem dX3_keeps_26 : decode cX3_keeps 26 = .ok (.ireturn, 1) := by decide +kernel
theorem dX4_init_0 : decode cX4_init 0 = .ok (.aload_n 0, 1) := by decide +kernel
theorem dX4_init_1 : decode cX4_init 1 = .ok (.invokespecial 7, 3) := by decide +kernel
theorem dX4_init_4 : decode cX4_init 4 = .ok (.aload_n 0, 1) := by decide +kernel
theorem dX4_init_5 : decode cX4_init 5 = .ok (.aload_n 2, 1) := by decide +kernel
theorem dX4_init_6 : decode cX4_init 6 = .ok (.putfield 13, 3) := by decide +kernel
theorem dX4_init_9 : decode cX4_init 9 = .ok (.aload_n 0, 1) := by decide +kernel
theorem dX4_init_10 : decode cX4_init 10 = .ok (.new 17, 3) := by decide +kernel
theorem dX4_init_13 : decode cX4_init 13 = .ok (.dup, 1) := by decide +kernel
theorem dX4_init_14 : decode cX4_init 14 = .ok (.sipush 4000, 3) := by decide +kernel
theorem dX4_init_17 : decode cX4_init 17 = .ok (.invokespecial 19, 3) := by decide +kernel
theorem dX4_init_20 : decode cX4_init 20 = .ok (.putfield 22, 3) := by decide +kernel
theorem dX4_init_23 : decode cX4_init 23 = .ok (.aload_n 0, 1) := by decide +kernel
theorem dX4_init_24 : decode cX4_init 24 = .ok (.aload_n 1, 1) := by decide +kernel
theorem dX4_init_25 : decode cX4_init 25 = .ok (.putfield 26, 3) := by decide +kernel
theorem dX4_init_28 : decode cX4_init 28 = .ok (.aload_n 0, 1) := by decide +kernel
theorem dX4_init_29 : decode cX4_init 29 = .ok (.aload_n 1, 1) := by decide +kernel
theorem dX4_init_30 : decode cX4_init 30 = .ok (.invokevirtual 30, 3) := by decide +kernel
theorem dX4_init_33 : decode cX4_init 33 = .ok (.putfield 36, 3) := by decide +kernel
theorem dX4_init_36 : decode cX4_init 36 = .ok (.aload_n 0, 1) := by decide +kernel
theorem dX4_init_37 : decode cX4_init 37 = .ok (.sipush 1640, 3) := by decide +kernel
theorem dX4_init_40 : decode cX4_init 40 = .ok (.newarray .int, 2) := by decide +kernel
theorem dX4_init_42 : decode cX4_init 42 = .ok (.putfield 39, 3) := by decide +kernel
theorem dX4_init_45 : decode cX4_init 45 = .ok (.aload_n 0, 1) := by decide +kernel
theorem dX4_init_46 : decode cX4_init 46 = .ok (.sipush 4100, 3) := by decide +kernel
theorem dX4_init_49 : decode cX4_init 49 = .ok (.newarray .int, 2) := by decide +kernel
theorem dX4_init_51 : decode cX4_init 51 = .ok (.putfield 43, 3) := by decide +kernel
theorem dX4_init_54 : decode cX4_init 54 = .ok (.aload_n 0, 1) := by decide +kernel
theorem dX4_init_55 : decode cX4_init 55 = .ok (.bipush 41, 2) := by decide +kernel
theorem dX4_init_57 : decode cX4_init 57 = .ok (.newarray .int, 2) := by decide +kernel
theorem dX4_init_59 : decode cX4_init 59 = .ok (.putfield 46, 3) := by decide +kernel
theorem dX4_init_62 : decode cX4_init 62 = .ok (.aload_n 0, 1) := by decide +kernel
theorem dX4_init_63 : decode cX4_init 63 = .ok (.sipush 26000, 3) := by decide +kernel
theorem dX4_init_66 : decode cX4_init 66 = .ok (.newarray .int, 2) := by decide +kernel
theorem dX4_init_68 : decode cX4_init 68 = .ok (.putfield 49, 3) := by decide +kernel
theorem dX4_init_71 : decode cX4_init 71 = .ok (.aload_n 0, 1) := by decide +kernel
theorem dX4_init_72 : decode cX4_init 72 = .ok (.iconst (-1), 1) := by decide +kernel
theorem dX4_init_73 : decode cX4_init 73 = .ok (.putfield 52, 3) := by decide +kernel
theorem dX4_init_76 : decode cX4_init 76 = .ok (.return_, 1) := by decide +kernel
theorem dX4_ended_0 : decode cX4_ended 0 = .ok (.aload_n 0, 1) := by decide +kernel
theorem dX4_ended_1 : decode cX4_ended 1 = .ok (.getfield 52, 3) := by decide +kernel
theorem dX4_ended_4 : decode cX4_ended 4 = .ok (.ireturn, 1) := by decide +kernel
theorem dX4_calls_0 : decode cX4_calls 0 = .ok (.aload_n 0, 1) := by decide +kernel
theorem dX4_calls_1 : decode cX4_calls 1 = .ok (.getfield 56, 3) := by decide +kernel
theorem dX4_calls_4 : decode cX4_calls 4 = .ok (.ireturn, 1) := by decide +kernel
theorem dX4_values_0 : decode cX4_values 0 = .ok (.aload_n 0, 1) := by decide +kernel
theorem dX4_values_1 : decode cX4_values 1 = .ok (.getfield 59, 3) := by decide +kernel
theorem dX4_values_4 : decode cX4_values 4 = .ok (.ireturn, 1) := by decide +kernel
theorem dX4_special_0 : decode cX4_special 0 = .ok (.aload_n 0, 1) := by decide +kernel
theorem dX4_special_1 : decode cX4_special 1 = .ok (.getfield 62, 3) := by decide +kernel
theorem dX4_special_4 : decode cX4_special 4 = .ok (.ireturn, 1) := by decide +kernel
theorem dX4_allCalls_0 : decode cX4_allCalls 0 = .ok (.aload_n 0, 1) := by decide +kernel
theorem dX4_allCalls_1 : decode cX4_allCalls 1 = .ok (.getfield 65, 3) := by decide +kernel
theorem dX4_allCalls_4 : decode cX4_allCalls 4 = .ok (.ireturn, 1) := by decide +kernel
theorem dX5_init_0 : decode cX5_init 0 = .ok (.aload_n 0, 1) := by decide +kernel
theorem dX5_init_1 : decode cX5_init 1 = .ok (.invokespecial 3, 3) := by decide +kernel
theorem dX5_init_4 : decode cX5_init 4 = .ok (.aload_n 0, 1) := by decide +kernel
theorem dX5_init_5 : decode cX5_init 5 = .ok (.bipush 100, 2) := by decide +kernel
theorem dX5_init_7 : decode cX5_init 7 = .ok (.newarray .int, 2) := by decide +kernel
theorem dX5_init_9 : decode cX5_init 9 = .ok (.putfield 11, 3) := by decide +kernel
theorem dX5_init_12 : decode cX5_init 12 = .ok (.return_, 1) := by decide +kernel
theorem dX6_init_0 : decode cX6_init 0 = .ok (.aload_n 0, 1) := by decide +kernel
theorem dX6_init_1 : decode cX6_init 1 = .ok (.invokespecial 3, 3) := by decide +kernel
theorem dX6_init_4 : decode cX6_init 4 = .ok (.aload_n 0, 1) := by decide +kernel
theorem dX6_init_5 : decode cX6_init 5 = .ok (.aload_n 1, 1) := by decide +kernel
theorem dX6_init_6 : decode cX6_init 6 = .ok (.putfield 9, 3) := by decide +kernel
theorem dX6_init_9 : decode cX6_init 9 = .ok (.aload_n 0, 1) := by decide +kernel
theorem dX6_init_10 : decode cX6_init 10 = .ok (.aload_n 1, 1) := by decide +kernel
theorem dX6_init_11 : decode cX6_init 11 = .ok (.invokevirtual 15, 3) := by decide +kernel
theorem dX6_init_14 : decode cX6_init 14 = .ok (.putfield 21, 3) := by decide +kernel
theorem dX6_init_17 : decode cX6_init 17 = .ok (.aload_n 0, 1) := by decide +kernel
theorem dX6_init_18 : decode cX6_init 18 = .ok (.new 24, 3) := by decide +kernel
theorem dX6_init_21 : decode cX6_init 21 = .ok (.dup, 1) := by decide +kernel
theorem dX6_init_22 : decode cX6_init 22 = .ok (.aload_n 1, 1) := by decide +kernel
theorem dX6_init_23 : decode cX6_init 23 = .ok (.invokespecial 26, 3) := by decide +kernel
theorem dX6_init_26 : decode cX6_init 26 = .ok (.putfield 29, 3) := by decide +kernel
theorem dX6_init_29 : decode cX6_init 29 = .ok (.aload_n 0, 1) := by decide +kernel
theorem dX6_init_30 : decode cX6_init 30 = .ok (.bipush 100, 2) := by decide +kernel
theorem dX6_init_32 : decode cX6_init 32 = .ok (.newarray .int, 2) := by decide +kernel
theorem dX6_init_34 : decode cX6_init 34 = .ok (.putfield 35, 3) := by decide +kernel
theorem dX6_init_37 : decode cX6_init 37 = .ok (.aload_n 0, 1) := by decide +kernel
theorem dX6_init_38 : decode cX6_init 38 = .ok (.iconst 0, 1) := by decide +kernel
theorem dX6_init_39 : decode cX6_init 39 = .ok (.putfield 39, 3) := by decide +kernel
theorem dX6_init_42 : decode cX6_init 42 = .ok (.aload_n 0, 1) := by decide +kernel
theorem dX6_init_43 : decode cX6_init 43 = .ok (.iconst (-1), 1) := by decide +kernel
theorem dX6_init_44 : decode cX6_init 44 = .ok (.putfield 43, 3) := by decide +kernel
theorem dX6_init_47 : decode cX6_init 47 = .ok (.return_, 1) := by decide +kernel
theorem dX6_read_0 : decode cX6_read 0 = .ok (.aload_n 0, 1) := by decide +kernel
theorem dX6_read_1 : decode cX6_read 1 = .ok (.aload_n 1, 1) := by decide +kernel
theorem dX6_read_2 : decode cX6_read 2 = .ok (.putfield 9, 3) := by decide +kernel
theorem dX6_read_5 : decode cX6_read 5 = .ok (.aload_n 0, 1) := by decide +kernel
theorem dX6_read_6 : decode cX6_read 6 = .ok (.aload_n 1, 1) := by decide +kernel
theorem dX6_read_7 : decode cX6_read 7 = .ok (.invokevirtual 15, 3) := by decide +kernel
theorem dX6_read_10 : decode cX6_read 10 = .ok (.putfield 21, 3) := by decide +kernel
theorem dX6_read_13 : decode cX6_read 13 = .ok (.aload_n 0, 1) := by decide +kernel
theorem dX6_read_14 : decode cX6_read 14 = .ok (.iconst 0, 1) := by decide +kernel
theorem dX6_read_15 : decode cX6_read 15 = .ok (.putfield 39, 3) := by decide +kernel
theorem dX6_read_18 : decode cX6_read 18 = .ok (.aload_n 0, 1) := by decide +kernel
theorem dX6_read_19 : decode cX6_read 19 = .ok (.iconst (-1), 1) := by decide +kernel
theorem dX6_read_20 : decode cX6_read 20 = .ok (.putfield 43, 3) := by decide +kernel
theorem dX6_read_23 : decode cX6_read 23 = .ok (.aload_n 0, 1) := by decide +kernel
theorem dX6_read_24 : decode cX6_read 24 = .ok (.getfield 29, 3) := by decide +kernel
theorem dX6_read_27 : decode cX6_read 27 = .ok (.aload_n 1, 1) := by decide +kernel
theorem dX6_read_28 : decode cX6_read 28 = .ok (.invokevirtual 46, 3) := by decide +kernel
theorem dX6_read_31 : decode cX6_read 31 = .ok (.aload_n 0, 1) := by decide +kernel
theorem dX6_read_32 : decode cX6_read 32 = .ok (.getfield 9, 3) := by decide +kernel
theorem dX6_read_35 : decode cX6_read 35 = .ok (.aload_n 0, 1) := by decide +kernel
theorem dX6_read_36 : decode cX6_read 36 = .ok (.iconst 1, 1) := by decide +kernel
theorem dX6_read_37 : decode cX6_read 37 = .ok (.invokevirtual 49, 3) := by decide +kernel
theorem dX6_read_40 : decode cX6_read 40 = .ok (.invokevirtual 53, 3) := by decide +kernel
theorem dX6_read_43 : decode cX6_read 43 = .ok (.aload_n 0, 1) := by decide +kernel
theorem dX6_read_44 : decode cX6_read 44 = .ok (.iconst 0, 1) := by decide +kernel
theorem dX6_read_45 : decode cX6_read 45 = .ok (.invokevirtual 57, 3) := by decide +kernel
theorem dX6_read_48 : decode cX6_read 48 = .ok (.return_, 1) := by decide +kernel
theorem dX6_refuse_0 : decode cX6_refuse 0 = .ok (.aload_n 0, 1) := by decide +kernel
theorem dX6_refuse_1 : decode cX6_refuse 1 = .ok (.getfield 29, 3) := by decide +kernel
theorem dX6_refuse_4 : decode cX6_refuse 4 = .ok (.invokevirtual 60, 3) := by decide +kernel
theorem dX6_refuse_7 : decode cX6_refuse 7 = .ok (.iconst 2, 1) := by decide +kernel
theorem dX6_refuse_8 : decode cX6_refuse 8 = .ok (.if_icmp .eq 25, 3) := by decide +kernel
theorem dX6_refuse_11 : decode cX6_refuse 11 = .ok (.aload_n 0, 1) := by decide +kernel
theorem dX6_refuse_12 : decode cX6_refuse 12 = .ok (.getfield 9, 3) := by decide +kernel
theorem dX6_refuse_15 : decode cX6_refuse 15 = .ok (.iload_n 1, 1) := by decide +kernel
theorem dX6_refuse_16 : decode cX6_refuse 16 = .ok (.aload_n 0, 1) := by decide +kernel
theorem dX6_refuse_17 : decode cX6_refuse 17 = .ok (.getfield 29, 3) := by decide +kernel
theorem dX6_refuse_20 : decode cX6_refuse 20 = .ok (.invokevirtual 64, 3) := by decide +kernel
theorem dX6_refuse_23 : decode cX6_refuse 23 = .ok (.invokevirtual 67, 3) := by decide +kernel
theorem dX6_refuse_26 : decode cX6_refuse 26 = .ok (.aload_n 0, 1) := by decide +kernel
theorem dX6_refuse_27 : decode cX6_refuse 27 = .ok (.getfield 29, 3) := by decide +kernel
theorem dX6_refuse_30 : decode cX6_refuse 30 = .ok (.invokevirtual 71, 3) := by decide +kernel
theorem dX6_refuse_33 : decode cX6_refuse 33 = .ok (.iconst (-1), 1) := by decide +kernel
theorem dX6_refuse_34 : decode cX6_refuse 34 = .ok (.ireturn, 1) := by decide +kernel
theorem dX6_accept_0 : decode cX6_accept 0 = .ok (.aload_n 0, 1) := by decide +kernel
theorem dX6_accept_1 : decode cX6_accept 1 = .ok (.getfield 29, 3) := by decide +kernel
theorem dX6_accept_4 : decode cX6_accept 4 = .ok (.invokevirtual 60, 3) := by decide +kernel
theorem dX6_accept_7 : decode cX6_accept 7 = .ok (.iload_n 1, 1) := by decide +kernel
theorem dX6_accept_8 : decode cX6_accept 8 = .ok (.if_icmp .ne 13, 3) := by decide +kernel
theorem dX6_accept_21 : decode cX6_accept 21 = .ok (.aload_n 0, 1) := by decide +kernel
theorem dX6_accept_22 : decode cX6_accept 22 = .ok (.iconst 1, 1) := by decide +kernel
theorem dX6_accept_23 : decode cX6_accept 23 = .ok (.invokevirtual 77, 3) := by decide +kernel
theorem dX6_accept_26 : decode cX6_accept 26 = .ok (.pop, 1) := by decide +kernel
theorem dX6_accept_27 : decode cX6_accept 27 = .ok (.return_, 1) := by decide +kernel
theorem dX6_expression_0 : decode cX6_expression 0 = .ok (.aload_n 0, 1) := by decide +kernel
theorem dX6_expression_1 : decode cX6_expression 1 = .ok (.invokevirtual 79, 3) := by decide +kernel
theorem dX6_expression_4 : decode cX6_expression 4 = .ok (.ifCond .ne 9, 3) := by decide +kernel
theorem dX6_expression_7 : decode cX6_expression 7 = .ok (.aload_n 0, 1) := by decide +kernel
theorem dX6_expression_8 : decode cX6_expression 8 = .ok (.iconst 1, 1) := by decide +kernel
theorem dX6_expression_9 : decode cX6_expression 9 = .ok (.invokevirtual 77, 3) := by decide +kernel
theorem dX6_expression_12 : decode cX6_expression 12 = .ok (.ireturn, 1) := by decide +kernel
theorem dX6_startsExpression_0 : decode cX6_startsExpression 0 = .ok (.aload_n 0, 1) := by decide +kernel
theorem dX6_startsExpression_1 : decode cX6_startsExpression 1 = .ok (.getfield 29, 3) := by decide +kernel
theorem dX6_startsExpression_4 : decode cX6_startsExpression 4 = .ok (.invokevirtual 60, 3) := by decide +kernel
theorem dX6_startsExpression_7 : decode cX6_startsExpression 7 = .ok (.lookupswitch 43 #[(10, 41), (11, 41), (13, 41), (92, 41)], 41) := by decide +kernel
theorem dX6_startsExpression_50 : decode cX6_startsExpression 50 = .ok (.aload_n 0, 1) := by decide +kernel
theorem dX6_startsExpression_51 : decode cX6_startsExpression 51 = .ok (.invokevirtual 98, 3) := by decide +kernel
theorem dX6_startsExpression_54 : decode cX6_startsExpression 54 = .ok (.ireturn, 1) := by decide +kernel
theorem dX6_startsAtom_0 : decode cX6_startsAtom 0 = .ok (.aload_n 0, 1) := by decide +kernel
theorem dX6_startsAtom_1 : decode cX6_startsAtom 1 = .ok (.getfield 29, 3) := by decide +kernel
theorem dX6_startsAtom_4 : decode cX6_startsAtom 4 = .ok (.invokevirtual 60, 3) := by decide +kernel
theorem dX6_startsAtom_7 : decode cX6_startsAtom 7 = .ok (.lookupswitch 67 #[(3, 65), (4, 65), (16, 65), (17, 65), (18, 65), (19, 65), (40, 65)], 65) := by decide +kernel
theorem dX6_startsAtom_74 : decode cX6_startsAtom 74 = .ok (.iconst 0, 1) := by decide +kernel
theorem dX6_startsAtom_75 : decode cX6_startsAtom 75 = .ok (.ireturn, 1) := by decide +kernel
theorem dX7_init_0 : decode cX7_init 0 = .ok (.aload_n 0, 1) := by decide +kernel
theorem dX7_init_1 : decode cX7_init 1 = .ok (.invokespecial 3, 3) := by decide +kernel
theorem dX7_init_4 : decode cX7_init 4 = .ok (.aload_n 0, 1) := by decide +kernel
theorem dX7_init_5 : decode cX7_init 5 = .ok (.iload_n 1, 1) := by decide +kernel
theorem dX7_init_6 : decode cX7_init 6 = .ok (.ifCond .le 7, 3) := by decide +kernel
theorem dX7_init_9 : decode cX7_init 9 = .ok (.iload_n 1, 1) := by decide +kernel
theorem dX7_init_10 : decode cX7_init 10 = .ok (.goto 4, 3) := by decide +kernel
theorem dX7_init_14 : decode cX7_init 14 = .ok (.newarray .byte, 2) := by decide +kernel
theorem dX7_init_16 : decode cX7_init 16 = .ok (.putfield 9, 3) := by decide +kernel
theorem dX7_init_19 : decode cX7_init 19 = .ok (.aload_n 0, 1) := by decide +kernel
theorem dX7_init_20 : decode cX7_init 20 = .ok (.iconst 0, 1) := by decide +kernel
theorem dX7_init_21 : decode cX7_init 21 = .ok (.putfield 15, 3) := by decide +kernel
theorem dX7_init_24 : decode cX7_init 24 = .ok (.aload_n 0, 1) := by decide +kernel
theorem dX7_init_25 : decode cX7_init 25 = .ok (.sipush 4000, 3) := by decide +kernel
theorem dX7_init_28 : decode cX7_init 28 = .ok (.newarray .int, 2) := by decide +kernel
theorem dX7_init_30 : decode cX7_init 30 = .ok (.putfield 19, 3) := by decide +kernel
theorem dX7_init_33 : decode cX7_init 33 = .ok (.aload_n 0, 1) := by decide +kernel
theorem dX7_init_34 : decode cX7_init 34 = .ok (.sipush 4000, 3) := by decide +kernel
theorem dX7_init_37 : decode cX7_init 37 = .ok (.newarray .int, 2) := by decide +kernel
theorem dX7_init_39 : decode cX7_init 39 = .ok (.putfield 23, 3) := by decide +kernel
theorem dX7_init_42 : decode cX7_init 42 = .ok (.aload_n 0, 1) := by decide +kernel
theorem dX7_init_43 : decode cX7_init 43 = .ok (.sipush 4000, 3) := by decide +kernel
theorem dX7_init_46 : decode cX7_init 46 = .ok (.newarray .int, 2) := by decide +kernel
theorem dX7_init_48 : decode cX7_init 48 = .ok (.putfield 26, 3) := by decide +kernel
theorem dX7_init_51 : decode cX7_init 51 = .ok (.aload_n 0, 1) := by decide +kernel
theorem dX7_init_52 : decode cX7_init 52 = .ok (.sipush 4000, 3) := by decide +kernel
theorem dX7_init_55 : decode cX7_init 55 = .ok (.newarray .int, 2) := by decide +kernel
theorem dX7_init_57 : decode cX7_init 57 = .ok (.putfield 29, 3) := by decide +kernel
theorem dX7_init_60 : decode cX7_init 60 = .ok (.aload_n 0, 1) := by decide +kernel
theorem dX7_init_61 : decode cX7_init 61 = .ok (.sipush 4000, 3) := by decide +kernel
theorem dX7_init_64 : decode cX7_init 64 = .ok (.newarray .int, 2) := by decide +kernel
theorem dX7_init_66 : decode cX7_init 66 = .ok (.putfield 32, 3) := by decide +kernel
theorem dX7_init_69 : decode cX7_init 69 = .ok (.aload_n 0, 1) := by decide +kernel
theorem dX7_init_70 : decode cX7_init 70 = .ok (.sipush 4000, 3) := by decide +kernel
theorem dX7_init_73 : decode cX7_init 73 = .ok (.newarray .int, 2) := by decide +kernel
theorem dX7_init_75 : decode cX7_init 75 = .ok (.putfield 35, 3) := by decide +kernel
theorem dX7_init_78 : decode cX7_init 78 = .ok (.aload_n 0, 1) := by decide +kernel
theorem dX7_init_79 : decode cX7_init 79 = .ok (.sipush 4000, 3) := by decide +kernel
theorem dX7_init_82 : decode cX7_init 82 = .ok (.newarray .int, 2) := by decide +kernel
theorem dX7_init_84 : decode cX7_init 84 = .ok (.putfield 38, 3) := by decide +kernel
theorem dX7_init_87 : decode cX7_init 87 = .ok (.aload_n 0, 1) := by decide +kernel
theorem dX7_init_88 : decode cX7_init 88 = .ok (.sipush 4000, 3) := by decide +kernel
theorem dX7_init_91 : decode cX7_init 91 = .ok (.newarray .int, 2) := by decide +kernel
theorem dX7_init_93 : decode cX7_init 93 = .ok (.putfield 41, 3) := by decide +kernel
theorem dX7_init_96 : decode cX7_init 96 = .ok (.aload_n 0, 1) := by decide +kernel
theorem dX7_init_97 : decode cX7_init 97 = .ok (.iconst 0, 1) := by decide +kernel
theorem dX7_init_98 : decode cX7_init 98 = .ok (.putfield 44, 3) := by decide +kernel
theorem dX7_init_101 : decode cX7_init 101 = .ok (.aload_n 0, 1) := by decide +kernel
theorem dX7_init_102 : decode cX7_init 102 = .ok (.iconst (-1), 1) := by decide +kernel
theorem dX7_init_103 : decode cX7_init 103 = .ok (.putfield 47, 3) := by decide +kernel
theorem dX7_init_106 : decode cX7_init 106 = .ok (.aload_n 0, 1) := by decide +kernel
theorem dX7_init_107 : decode cX7_init 107 = .ok (.iconst 0, 1) := by decide +kernel
theorem dX7_init_108 : decode cX7_init 108 = .ok (.putfield 50, 3) := by decide +kernel
theorem dX7_init_111 : decode cX7_init 111 = .ok (.aload_n 0, 1) := by decide +kernel
theorem dX7_init_112 : decode cX7_init 112 = .ok (.iconst (-1), 1) := by decide +kernel
theorem dX7_init_113 : decode cX7_init 113 = .ok (.putfield 53, 3) := by decide +kernel
theorem dX7_init_116 : decode cX7_init 116 = .ok (.aload_n 0, 1) := by decide +kernel
theorem dX7_init_117 : decode cX7_init 117 = .ok (.new 56, 3) := by decide +kernel
theorem dX7_init_120 : decode cX7_init 120 = .ok (.dup, 1) := by decide +kernel
theorem dX7_init_121 : decode cX7_init 121 = .ok (.invokespecial 58, 3) := by decide +kernel
theorem dX7_init_124 : decode cX7_init 124 = .ok (.putfield 59, 3) := by decide +kernel
theorem dX7_init_127 : decode cX7_init 127 = .ok (.aload_n 0, 1) := by decide +kernel
theorem dX7_init_128 : decode cX7_init 128 = .ok (.new 63, 3) := by decide +kernel
theorem dX7_init_131 : decode cX7_init 131 = .ok (.dup, 1) := by decide +kernel
theorem dX7_init_132 : decode cX7_init 132 = .ok (.invokespecial 65, 3) := by decide +kernel
theorem dX7_init_135 : decode cX7_init 135 = .ok (.putfield 66, 3) := by decide +kernel
theorem dX7_init_138 : decode cX7_init 138 = .ok (.return_, 1) := by decide +kernel
theorem dX7_open_0 : decode cX7_open 0 = .ok (.aload_n 0, 1) := by decide +kernel
theorem dX7_open_1 : decode cX7_open 1 = .ok (.iconst 0, 1) := by decide +kernel
theorem dX7_open_2 : decode cX7_open 2 = .ok (.iload_n 2, 1) := by decide +kernel
theorem dX7_open_3 : decode cX7_open 3 = .ok (.aload_n 1, 1) := by decide +kernel
theorem dX7_open_4 : decode cX7_open 4 = .ok (.arraylength, 1) := by decide +kernel
theorem dX7_open_5 : decode cX7_open 5 = .ok (.aload_n 0, 1) := by decide +kernel
theorem dX7_open_6 : decode cX7_open 6 = .ok (.getfield 9, 3) := by decide +kernel
theorem dX7_open_9 : decode cX7_open 9 = .ok (.arraylength, 1) := by decide +kernel
theorem dX7_open_10 : decode cX7_open 10 = .ok (.invokestatic 70, 3) := by decide +kernel
theorem dX7_open_13 : decode cX7_open 13 = .ok (.invokestatic 70, 3) := by decide +kernel
theorem dX7_open_16 : decode cX7_open 16 = .ok (.invokestatic 76, 3) := by decide +kernel
theorem dX7_open_19 : decode cX7_open 19 = .ok (.putfield 15, 3) := by decide +kernel
theorem dX7_open_22 : decode cX7_open 22 = .ok (.aload_n 1, 1) := by decide +kernel
theorem dX7_open_23 : decode cX7_open 23 = .ok (.iconst 0, 1) := by decide +kernel
theorem dX7_open_24 : decode cX7_open 24 = .ok (.aload_n 0, 1) := by decide +kernel
theorem dX7_open_25 : decode cX7_open 25 = .ok (.getfield 9, 3) := by decide +kernel
theorem dX7_open_28 : decode cX7_open 28 = .ok (.iconst 0, 1) := by decide +kernel
theorem dX7_open_29 : decode cX7_open 29 = .ok (.aload_n 0, 1) := by decide +kernel
theorem dX7_open_30 : decode cX7_open 30 = .ok (.getfield 15, 3) := by decide +kernel
theorem dX7_open_33 : decode cX7_open 33 = .ok (.invokestatic 79, 3) := by decide +kernel
theorem dX7_open_36 : decode cX7_open 36 = .ok (.aload_n 0, 1) := by decide +kernel
theorem dX7_open_37 : decode cX7_open 37 = .ok (.iconst 0, 1) := by decide +kernel
theorem dX7_open_38 : decode cX7_open 38 = .ok (.putfield 44, 3) := by decide +kernel
theorem dX7_open_41 : decode cX7_open 41 = .ok (.aload_n 0, 1) := by decide +kernel
theorem dX7_open_42 : decode cX7_open 42 = .ok (.iconst (-1), 1) := by decide +kernel
theorem dX7_open_43 : decode cX7_open 43 = .ok (.putfield 47, 3) := by decide +kernel
theorem dX7_open_46 : decode cX7_open 46 = .ok (.aload_n 0, 1) := by decide +kernel
theorem dX7_open_47 : decode cX7_open 47 = .ok (.iconst 0, 1) := by decide +kernel
theorem dX7_open_48 : decode cX7_open 48 = .ok (.putfield 50, 3) := by decide +kernel
theorem dX7_open_51 : decode cX7_open 51 = .ok (.aload_n 0, 1) := by decide +kernel
theorem dX7_open_52 : decode cX7_open 52 = .ok (.iconst (-1), 1) := by decide +kernel
theorem dX7_open_53 : decode cX7_open 53 = .ok (.putfield 53, 3) := by decide +kernel
theorem dX7_open_56 : decode cX7_open 56 = .ok (.aload_n 0, 1) := by decide +kernel
theorem dX7_open_57 : decode cX7_open 57 = .ok (.getfield 59, 3) := by decide +kernel
theorem dX7_open_60 : decode cX7_open 60 = .ok (.invokevirtual 85, 3) := by decide +kernel
theorem dX7_open_63 : decode cX7_open 63 = .ok (.aload_n 0, 1) := by decide +kernel
theorem dX7_open_64 : decode cX7_open 64 = .ok (.getfield 66, 3) := by decide +kernel
theorem dX7_open_67 : decode cX7_open 67 = .ok (.invokevirtual 88, 3) := by decide +kernel
theorem dX7_open_70 : decode cX7_open 70 = .ok (.return_, 1) := by decide +kernel
theorem dX7_types_0 : decode cX7_types 0 = .ok (.aload_n 0, 1) := by decide +kernel
theorem dX7_types_1 : decode cX7_types 1 = .ok (.getfield 59, 3) := by decide +kernel
theorem dX7_types_4 : decode cX7_types 4 = .ok (.areturn, 1) := by decide +kernel
theorem dX7_bindings_0 : decode cX7_bindings 0 = .ok (.aload_n 0, 1) := by decide +kernel
theorem dX7_bindings_1 : decode cX7_bindings 1 = .ok (.getfield 66, 3) := by decide +kernel
theorem dX7_bindings_4 : decode cX7_bindings 4 = .ok (.areturn, 1) := by decide +kernel
theorem dX7_length_0 : decode cX7_length 0 = .ok (.aload_n 0, 1) := by decide +kernel
theorem dX7_length_1 : decode cX7_length 1 = .ok (.getfield 15, 3) := by decide +kernel
theorem dX7_length_4 : decode cX7_length 4 = .ok (.ireturn, 1) := by decide +kernel
theorem dX7_letter_0 : decode cX7_letter 0 = .ok (.iload_n 1, 1) := by decide +kernel
theorem dX7_letter_1 : decode cX7_letter 1 = .ok (.ifCond .lt 33, 3) := by decide +kernel
theorem dX7_letter_4 : decode cX7_letter 4 = .ok (.iload_n 1, 1) := by decide +kernel
theorem dX7_letter_5 : decode cX7_letter 5 = .ok (.aload_n 0, 1) := by decide +kernel
theorem dX7_letter_6 : decode cX7_letter 6 = .ok (.getfield 15, 3) := by decide +kernel
theorem dX7_letter_9 : decode cX7_letter 9 = .ok (.if_icmp .ge 25, 3) := by decide +kernel
theorem dX7_letter_34 : decode cX7_letter 34 = .ok (.iconst (-1), 1) := by decide +kernel
theorem dX7_letter_35 : decode cX7_letter 35 = .ok (.ireturn, 1) := by decide +kernel
theorem dX7_refuse_0 : decode cX7_refuse 0 = .ok (.aload_n 0, 1) := by decide +kernel
theorem dX7_refuse_1 : decode cX7_refuse 1 = .ok (.getfield 50, 3) := by decide +kernel
theorem dX7_refuse_4 : decode cX7_refuse 4 = .ok (.ifCond .ne 13, 3) := by decide +kernel
theorem dX7_refuse_7 : decode cX7_refuse 7 = .ok (.aload_n 0, 1) := by decide +kernel
theorem dX7_refuse_8 : decode cX7_refuse 8 = .ok (.iload_n 1, 1) := by decide +kernel
theorem dX7_refuse_9 : decode cX7_refuse 9 = .ok (.putfield 50, 3) := by decide +kernel
theorem dX7_refuse_12 : decode cX7_refuse 12 = .ok (.aload_n 0, 1) := by decide +kernel
theorem dX7_refuse_13 : decode cX7_refuse 13 = .ok (.iload_n 2, 1) := by decide +kernel
theorem dX7_refuse_14 : decode cX7_refuse 14 = .ok (.putfield 53, 3) := by decide +kernel
theorem dX7_refuse_17 : decode cX7_refuse 17 = .ok (.return_, 1) := by decide +kernel
theorem dX7_refusal_0 : decode cX7_refusal 0 = .ok (.aload_n 0, 1) := by decide +kernel
theorem dX7_refusal_1 : decode cX7_refusal 1 = .ok (.getfield 50, 3) := by decide +kernel
theorem dX7_refusal_4 : decode cX7_refusal 4 = .ok (.ireturn, 1) := by decide +kernel
theorem dX7_refusedAt_0 : decode cX7_refusedAt 0 = .ok (.aload_n 0, 1) := by decide +kernel
theorem dX7_refusedAt_1 : decode cX7_refusedAt 1 = .ok (.getfield 53, 3) := by decide +kernel
theorem dX7_refusedAt_4 : decode cX7_refusedAt 4 = .ok (.ireturn, 1) := by decide +kernel
theorem dX7_setRoot_0 : decode cX7_setRoot 0 = .ok (.aload_n 0, 1) := by decide +kernel
theorem dX7_setRoot_1 : decode cX7_setRoot 1 = .ok (.iload_n 1, 1) := by decide +kernel
theorem dX7_setRoot_2 : decode cX7_setRoot 2 = .ok (.putfield 47, 3) := by decide +kernel
theorem dX7_setRoot_5 : decode cX7_setRoot 5 = .ok (.return_, 1) := by decide +kernel
theorem dX8_init_0 : decode cX8_init 0 = .ok (.aload_n 0, 1) := by decide +kernel
theorem dX8_init_1 : decode cX8_init 1 = .ok (.invokespecial 3, 3) := by decide +kernel
theorem dX8_init_4 : decode cX8_init 4 = .ok (.aload_n 0, 1) := by decide +kernel
theorem dX8_init_5 : decode cX8_init 5 = .ok (.aload_n 1, 1) := by decide +kernel
theorem dX8_init_6 : decode cX8_init 6 = .ok (.putfield 9, 3) := by decide +kernel
theorem dX8_init_9 : decode cX8_init 9 = .ok (.aload_n 0, 1) := by decide +kernel
theorem dX8_init_10 : decode cX8_init 10 = .ok (.sipush 3001, 3) := by decide +kernel
theorem dX8_init_13 : decode cX8_init 13 = .ok (.newarray .int, 2) := by decide +kernel
theorem dX8_init_15 : decode cX8_init 15 = .ok (.putfield 15, 3) := by decide +kernel
theorem dX8_init_18 : decode cX8_init 18 = .ok (.aload_n 0, 1) := by decide +kernel
theorem dX8_init_19 : decode cX8_init 19 = .ok (.sipush 3001, 3) := by decide +kernel
theorem dX8_init_22 : decode cX8_init 22 = .ok (.newarray .int, 2) := by decide +kernel
theorem dX8_init_24 : decode cX8_init 24 = .ok (.putfield 19, 3) := by decide +kernel
theorem dX8_init_27 : decode cX8_init 27 = .ok (.aload_n 0, 1) := by decide +kernel
theorem dX8_init_28 : decode cX8_init 28 = .ok (.sipush 3001, 3) := by decide +kernel
theorem dX8_init_31 : decode cX8_init 31 = .ok (.newarray .int, 2) := by decide +kernel
theorem dX8_init_33 : decode cX8_init 33 = .ok (.putfield 22, 3) := by decide +kernel
theorem dX8_init_36 : decode cX8_init 36 = .ok (.aload_n 0, 1) := by decide +kernel
theorem dX8_init_37 : decode cX8_init 37 = .ok (.iconst 0, 1) := by decide +kernel
theorem dX8_init_38 : decode cX8_init 38 = .ok (.putfield 25, 3) := by decide +kernel
theorem dX8_init_41 : decode cX8_init 41 = .ok (.aload_n 0, 1) := by decide +kernel
theorem dX8_init_42 : decode cX8_init 42 = .ok (.iconst 0, 1) := by decide +kernel
theorem dX8_init_43 : decode cX8_init 43 = .ok (.putfield 29, 3) := by decide +kernel
theorem dX8_init_46 : decode cX8_init 46 = .ok (.aload_n 0, 1) := by decide +kernel
theorem dX8_init_47 : decode cX8_init 47 = .ok (.iconst 0, 1) := by decide +kernel
theorem dX8_init_48 : decode cX8_init 48 = .ok (.putfield 32, 3) := by decide +kernel
theorem dX8_init_51 : decode cX8_init 51 = .ok (.aload_n 0, 1) := by decide +kernel
theorem dX8_init_52 : decode cX8_init 52 = .ok (.iconst 0, 1) := by decide +kernel
theorem dX8_init_53 : decode cX8_init 53 = .ok (.putfield 35, 3) := by decide +kernel
theorem dX8_init_56 : decode cX8_init 56 = .ok (.aload_n 0, 1) := by decide +kernel
theorem dX8_init_57 : decode cX8_init 57 = .ok (.iconst 0, 1) := by decide +kernel
theorem dX8_init_58 : decode cX8_init 58 = .ok (.putfield 38, 3) := by decide +kernel
theorem dX8_init_61 : decode cX8_init 61 = .ok (.return_, 1) := by decide +kernel
theorem dX8_open_0 : decode cX8_open 0 = .ok (.aload_n 0, 1) := by decide +kernel
theorem dX8_open_1 : decode cX8_open 1 = .ok (.aload_n 1, 1) := by decide +kernel
theorem dX8_open_2 : decode cX8_open 2 = .ok (.putfield 9, 3) := by decide +kernel
theorem dX8_open_5 : decode cX8_open 5 = .ok (.aload_n 0, 1) := by decide +kernel
theorem dX8_open_6 : decode cX8_open 6 = .ok (.iconst 0, 1) := by decide +kernel
theorem dX8_open_7 : decode cX8_open 7 = .ok (.putfield 25, 3) := by decide +kernel
theorem dX8_open_10 : decode cX8_open 10 = .ok (.aload_n 0, 1) := by decide +kernel
theorem dX8_open_11 : decode cX8_open 11 = .ok (.iconst 0, 1) := by decide +kernel
theorem dX8_open_12 : decode cX8_open 12 = .ok (.putfield 38, 3) := by decide +kernel
theorem dX8_open_15 : decode cX8_open 15 = .ok (.aload_n 0, 1) := by decide +kernel
theorem dX8_open_16 : decode cX8_open 16 = .ok (.iconst 1, 1) := by decide +kernel
theorem dX8_open_17 : decode cX8_open 17 = .ok (.putfield 32, 3) := by decide +kernel
theorem dX8_open_20 : decode cX8_open 20 = .ok (.iconst 0, 1) := by decide +kernel
theorem dX8_open_21 : decode cX8_open 21 = .ok (.istore_n 2, 1) := by decide +kernel
theorem dX8_open_22 : decode cX8_open 22 = .ok (.iload_n 2, 1) := by decide +kernel
theorem dX8_open_23 : decode cX8_open 23 = .ok (.sipush 3000, 3) := by decide +kernel
theorem dX8_open_26 : decode cX8_open 26 = .ok (.if_icmp .gt 75, 3) := by decide +kernel
theorem dX8_open_29 : decode cX8_open 29 = .ok (.aload_n 0, 1) := by decide +kernel
theorem dX8_open_30 : decode cX8_open 30 = .ok (.getfield 32, 3) := by decide +kernel
theorem dX8_open_33 : decode cX8_open 33 = .ok (.ifCond .eq 68, 3) := by decide +kernel
theorem dX8_open_36 : decode cX8_open 36 = .ok (.aload_n 0, 1) := by decide +kernel
theorem dX8_open_37 : decode cX8_open 37 = .ok (.invokevirtual 41, 3) := by decide +kernel
theorem dX8_open_40 : decode cX8_open 40 = .ok (.aload_n 0, 1) := by decide +kernel
theorem dX8_open_41 : decode cX8_open 41 = .ok (.getfield 15, 3) := by decide +kernel
theorem dX8_open_44 : decode cX8_open 44 = .ok (.aload_n 0, 1) := by decide +kernel
theorem dX8_open_45 : decode cX8_open 45 = .ok (.getfield 25, 3) := by decide +kernel
theorem dX8_open_48 : decode cX8_open 48 = .ok (.aload_n 0, 1) := by decide +kernel
theorem dX8_open_49 : decode cX8_open 49 = .ok (.getfield 32, 3) := by decide +kernel
theorem dX8_open_52 : decode cX8_open 52 = .ok (.invokestatic 44, 3) := by decide +kernel
theorem dX8_open_55 : decode cX8_open 55 = .ok (.aload_n 0, 1) := by decide +kernel
theorem dX8_open_56 : decode cX8_open 56 = .ok (.getfield 19, 3) := by decide +kernel
theorem dX8_open_59 : decode cX8_open 59 = .ok (.aload_n 0, 1) := by decide +kernel
theorem dX8_open_60 : decode cX8_open 60 = .ok (.getfield 25, 3) := by decide +kernel
theorem dX8_open_63 : decode cX8_open 63 = .ok (.aload_n 0, 1) := by decide +kernel
theorem dX8_open_64 : decode cX8_open 64 = .ok (.getfield 35, 3) := by decide +kernel
theorem dX8_open_67 : decode cX8_open 67 = .ok (.invokestatic 44, 3) := by decide +kernel
theorem dX8_open_70 : decode cX8_open 70 = .ok (.aload_n 0, 1) := by decide +kernel
theorem dX8_open_71 : decode cX8_open 71 = .ok (.getfield 22, 3) := by decide +kernel
theorem dX8_open_74 : decode cX8_open 74 = .ok (.aload_n 0, 1) := by decide +kernel
theorem dX8_open_75 : decode cX8_open 75 = .ok (.getfield 25, 3) := by decide +kernel
theorem dX8_open_78 : decode cX8_open 78 = .ok (.aload_n 0, 1) := by decide +kernel
theorem dX8_open_79 : decode cX8_open 79 = .ok (.getfield 38, 3) := by decide +kernel
theorem dX8_open_82 : decode cX8_open 82 = .ok (.invokestatic 44, 3) := by decide +kernel
theorem dX8_open_85 : decode cX8_open 85 = .ok (.aload_n 0, 1) := by decide +kernel
theorem dX8_open_86 : decode cX8_open 86 = .ok (.dup, 1) := by decide +kernel
theorem dX8_open_87 : decode cX8_open 87 = .ok (.getfield 25, 3) := by decide +kernel
theorem dX8_open_90 : decode cX8_open 90 = .ok (.iconst 1, 1) := by decide +kernel
theorem dX8_open_91 : decode cX8_open 91 = .ok (.iadd, 1) := by decide +kernel
theorem dX8_open_92 : decode cX8_open 92 = .ok (.putfield 25, 3) := by decide +kernel
theorem dX8_open_95 : decode cX8_open 95 = .ok (.iinc 2 1, 3) := by decide +kernel
theorem dX8_open_98 : decode cX8_open 98 = .ok (.goto (-76), 3) := by decide +kernel
theorem dX8_open_101 : decode cX8_open 101 = .ok (.aload_n 0, 1) := by decide +kernel
theorem dX8_open_102 : decode cX8_open 102 = .ok (.iconst 1, 1) := by decide +kernel
theorem dX8_open_103 : decode cX8_open 103 = .ok (.putfield 32, 3) := by decide +kernel
theorem dX8_open_106 : decode cX8_open 106 = .ok (.aload_n 0, 1) := by decide +kernel
theorem dX8_open_107 : decode cX8_open 107 = .ok (.iconst (-1), 1) := by decide +kernel
theorem dX8_open_108 : decode cX8_open 108 = .ok (.putfield 29, 3) := by decide +kernel
theorem dX8_open_111 : decode cX8_open 111 = .ok (.aload_n 0, 1) := by decide +kernel
theorem dX8_open_112 : decode cX8_open 112 = .ok (.invokevirtual 48, 3) := by decide +kernel
theorem dX8_open_115 : decode cX8_open 115 = .ok (.return_, 1) := by decide +kernel
theorem dX8_stop_0 : decode cX8_stop 0 = .ok (.aload_n 0, 1) := by decide +kernel
theorem dX8_stop_1 : decode cX8_stop 1 = .ok (.iconst 2, 1) := by decide +kernel
theorem dX8_stop_2 : decode cX8_stop 2 = .ok (.putfield 32, 3) := by decide +kernel
theorem dX8_stop_5 : decode cX8_stop 5 = .ok (.return_, 1) := by decide +kernel
theorem dX8_kind_0 : decode cX8_kind 0 = .ok (.aload_n 0, 1) := by decide +kernel
theorem dX8_kind_1 : decode cX8_kind 1 = .ok (.getfield 32, 3) := by decide +kernel
theorem dX8_kind_4 : decode cX8_kind 4 = .ok (.ireturn, 1) := by decide +kernel
theorem dX8_start_0 : decode cX8_start 0 = .ok (.aload_n 0, 1) := by decide +kernel
theorem dX8_start_1 : decode cX8_start 1 = .ok (.getfield 35, 3) := by decide +kernel
theorem dX8_start_4 : decode cX8_start 4 = .ok (.ireturn, 1) := by decide +kernel
theorem dX8_advance_0 : decode cX8_advance 0 = .ok (.aload_n 0, 1) := by decide +kernel
theorem dX8_advance_1 : decode cX8_advance 1 = .ok (.getfield 32, 3) := by decide +kernel
theorem dX8_advance_4 : decode cX8_advance 4 = .ok (.iconst 2, 1) := by decide +kernel
theorem dX8_advance_5 : decode cX8_advance 5 = .ok (.if_icmp .eq 71, 3) := by decide +kernel
theorem dX8_advance_8 : decode cX8_advance 8 = .ok (.aload_n 0, 1) := by decide +kernel
theorem dX8_advance_9 : decode cX8_advance 9 = .ok (.getfield 29, 3) := by decide +kernel
theorem dX8_advance_12 : decode cX8_advance 12 = .ok (.aload_n 0, 1) := by decide +kernel
theorem dX8_advance_13 : decode cX8_advance 13 = .ok (.getfield 25, 3) := by decide +kernel
theorem dX8_advance_16 : decode cX8_advance 16 = .ok (.iconst 1, 1) := by decide +kernel
theorem dX8_advance_17 : decode cX8_advance 17 = .ok (.isub, 1) := by decide +kernel
theorem dX8_advance_18 : decode cX8_advance 18 = .ok (.if_icmp .ge 58, 3) := by decide +kernel
theorem dX8_advance_21 : decode cX8_advance 21 = .ok (.aload_n 0, 1) := by decide +kernel
theorem dX8_advance_22 : decode cX8_advance 22 = .ok (.dup, 1) := by decide +kernel
theorem dX8_advance_23 : decode cX8_advance 23 = .ok (.getfield 29, 3) := by decide +kernel
theorem dX8_advance_26 : decode cX8_advance 26 = .ok (.iconst 1, 1) := by decide +kernel
theorem dX8_advance_27 : decode cX8_advance 27 = .ok (.iadd, 1) := by decide +kernel
theorem dX8_advance_28 : decode cX8_advance 28 = .ok (.putfield 29, 3) := by decide +kernel
theorem dX8_advance_31 : decode cX8_advance 31 = .ok (.aload_n 0, 1) := by decide +kernel
theorem dX8_advance_32 : decode cX8_advance 32 = .ok (.aload_n 0, 1) := by decide +kernel
theorem dX8_advance_33 : decode cX8_advance 33 = .ok (.getfield 15, 3) := by decide +kernel
theorem dX8_advance_36 : decode cX8_advance 36 = .ok (.aload_n 0, 1) := by decide +kernel
theorem dX8_advance_37 : decode cX8_advance 37 = .ok (.getfield 29, 3) := by decide +kernel
theorem dX8_advance_40 : decode cX8_advance 40 = .ok (.invokestatic 57, 3) := by decide +kernel
theorem dX8_advance_43 : decode cX8_advance 43 = .ok (.putfield 32, 3) := by decide +kernel
theorem dX8_advance_46 : decode cX8_advance 46 = .ok (.aload_n 0, 1) := by decide +kernel
theorem dX8_advance_47 : decode cX8_advance 47 = .ok (.aload_n 0, 1) := by decide +kernel
theorem dX8_advance_48 : decode cX8_advance 48 = .ok (.getfield 19, 3) := by decide +kernel
theorem dX8_advance_51 : decode cX8_advance 51 = .ok (.aload_n 0, 1) := by decide +kernel
theorem dX8_advance_52 : decode cX8_advance 52 = .ok (.getfield 29, 3) := by decide +kernel
theorem dX8_advance_55 : decode cX8_advance 55 = .ok (.invokestatic 57, 3) := by decide +kernel
theorem dX8_advance_58 : decode cX8_advance 58 = .ok (.putfield 35, 3) := by decide +kernel
theorem dX8_advance_61 : decode cX8_advance 61 = .ok (.aload_n 0, 1) := by decide +kernel
theorem dX8_advance_62 : decode cX8_advance 62 = .ok (.aload_n 0, 1) := by decide +kernel
theorem dX8_advance_63 : decode cX8_advance 63 = .ok (.getfield 22, 3) := by decide +kernel
theorem dX8_advance_66 : decode cX8_advance 66 = .ok (.aload_n 0, 1) := by decide +kernel
theorem dX8_advance_67 : decode cX8_advance 67 = .ok (.getfield 29, 3) := by decide +kernel
theorem dX8_advance_70 : decode cX8_advance 70 = .ok (.invokestatic 57, 3) := by decide +kernel
theorem dX8_advance_73 : decode cX8_advance 73 = .ok (.putfield 38, 3) := by decide +kernel
theorem dX8_advance_76 : decode cX8_advance 76 = .ok (.return_, 1) := by decide +kernel
theorem dX8_scan_0 : decode cX8_scan 0 = .ok (.aload_n 0, 1) := by decide +kernel
theorem dX8_scan_1 : decode cX8_scan 1 = .ok (.getfield 38, 3) := by decide +kernel
theorem dX8_scan_4 : decode cX8_scan 4 = .ok (.istore_n 1, 1) := by decide +kernel
theorem dX8_scan_5 : decode cX8_scan 5 = .ok (.iload_n 1, 1) := by decide +kernel
theorem dX8_scan_6 : decode cX8_scan 6 = .ok (.aload_n 0, 1) := by decide +kernel
theorem dX8_scan_7 : decode cX8_scan 7 = .ok (.getfield 9, 3) := by decide +kernel
theorem dX8_scan_10 : decode cX8_scan 10 = .ok (.invokevirtual 61, 3) := by decide +kernel
theorem dX8_scan_13 : decode cX8_scan 13 = .ok (.if_icmp .ge 23, 3) := by decide +kernel
theorem dX8_scan_36 : decode cX8_scan 36 = .ok (.aload_n 0, 1) := by decide +kernel
theorem dX8_scan_37 : decode cX8_scan 37 = .ok (.iload_n 1, 1) := by decide +kernel
theorem dX8_scan_38 : decode cX8_scan 38 = .ok (.putfield 35, 3) := by decide +kernel
theorem dX8_scan_41 : decode cX8_scan 41 = .ok (.aload_n 0, 1) := by decide +kernel
theorem dX8_scan_42 : decode cX8_scan 42 = .ok (.getfield 9, 3) := by decide +kernel
theorem dX8_scan_45 : decode cX8_scan 45 = .ok (.iload_n 1, 1) := by decide +kernel
theorem dX8_scan_46 : decode cX8_scan 46 = .ok (.invokevirtual 51, 3) := by decide +kernel
theorem dX8_scan_49 : decode cX8_scan 49 = .ok (.istore_n 2, 1) := by decide +kernel
theorem dX8_scan_50 : decode cX8_scan 50 = .ok (.iload_n 2, 1) := by decide +kernel
theorem dX8_scan_51 : decode cX8_scan 51 = .ok (.iconst (-1), 1) := by decide +kernel
theorem dX8_scan_52 : decode cX8_scan 52 = .ok (.if_icmp .ne 16, 3) := by decide +kernel
theorem dX8_scan_55 : decode cX8_scan 55 = .ok (.aload_n 0, 1) := by decide +kernel
theorem dX8_scan_56 : decode cX8_scan 56 = .ok (.iload_n 1, 1) := by decide +kernel
theorem dX8_scan_57 : decode cX8_scan 57 = .ok (.putfield 38, 3) := by decide +kernel
theorem dX8_scan_60 : decode cX8_scan 60 = .ok (.aload_n 0, 1) := by decide +kernel
theorem dX8_scan_61 : decode cX8_scan 61 = .ok (.iconst 0, 1) := by decide +kernel
theorem dX8_scan_62 : decode cX8_scan 62 = .ok (.putfield 32, 3) := by decide +kernel
theorem dX8_scan_65 : decode cX8_scan 65 = .ok (.goto 36, 3) := by decide +kernel
theorem dX8_scan_101 : decode cX8_scan 101 = .ok (.return_, 1) := by decide +kernel
theorem dX9_init_0 : decode cX9_init 0 = .ok (.aload_n 0, 1) := by decide +kernel
theorem dX9_init_1 : decode cX9_init 1 = .ok (.invokespecial 3, 3) := by decide +kernel
theorem dX9_init_4 : decode cX9_init 4 = .ok (.aload_n 0, 1) := by decide +kernel
theorem dX9_init_5 : decode cX9_init 5 = .ok (.aload_n 2, 1) := by decide +kernel
theorem dX9_init_6 : decode cX9_init 6 = .ok (.putfield 9, 3) := by decide +kernel
theorem dX9_init_9 : decode cX9_init 9 = .ok (.aload_n 0, 1) := by decide +kernel
theorem dX9_init_10 : decode cX9_init 10 = .ok (.aload_n 1, 1) := by decide +kernel
theorem dX9_init_11 : decode cX9_init 11 = .ok (.putfield 15, 3) := by decide +kernel
theorem dX9_init_14 : decode cX9_init 14 = .ok (.aload_n 0, 1) := by decide +kernel
theorem dX9_init_15 : decode cX9_init 15 = .ok (.aload_n 1, 1) := by decide +kernel
theorem dX9_init_16 : decode cX9_init 16 = .ok (.invokevirtual 19, 3) := by decide +kernel
theorem dX9_init_19 : decode cX9_init 19 = .ok (.putfield 25, 3) := by decide +kernel
theorem dX9_init_22 : decode cX9_init 22 = .ok (.aload_n 0, 1) := by decide +kernel
theorem dX9_init_23 : decode cX9_init 23 = .ok (.aload_n 1, 1) := by decide +kernel
theorem dX9_init_24 : decode cX9_init 24 = .ok (.invokevirtual 28, 3) := by decide +kernel
theorem dX9_init_27 : decode cX9_init 27 = .ok (.putfield 32, 3) := by decide +kernel
theorem dX9_init_30 : decode cX9_init 30 = .ok (.aload_n 0, 1) := by decide +kernel
theorem dX9_init_31 : decode cX9_init 31 = .ok (.iconst 0, 1) := by decide +kernel
theorem dX9_init_32 : decode cX9_init 32 = .ok (.putfield 35, 3) := by decide +kernel
theorem dX9_init_35 : decode cX9_init 35 = .ok (.aload_n 0, 1) := by decide +kernel
theorem dX9_init_36 : decode cX9_init 36 = .ok (.iconst (-1), 1) := by decide +kernel
theorem dX9_init_37 : decode cX9_init 37 = .ok (.putfield 39, 3) := by decide +kernel
theorem dX9_init_40 : decode cX9_init 40 = .ok (.return_, 1) := by decide +kernel
theorem dX10_init_0 : decode cX10_init 0 = .ok (.aload_n 0, 1) := by decide +kernel
theorem dX10_init_1 : decode cX10_init 1 = .ok (.invokespecial 3, 3) := by decide +kernel
theorem dX10_init_4 : decode cX10_init 4 = .ok (.aload_n 0, 1) := by decide +kernel
theorem dX10_init_5 : decode cX10_init 5 = .ok (.sipush 1600, 3) := by decide +kernel
theorem dX10_init_8 : decode cX10_init 8 = .ok (.newarray .int, 2) := by decide +kernel
theorem dX10_init_10 : decode cX10_init 10 = .ok (.putfield 11, 3) := by decide +kernel
theorem dX10_init_13 : decode cX10_init 13 = .ok (.aload_n 0, 1) := by decide +kernel
theorem dX10_init_14 : decode cX10_init 14 = .ok (.sipush 1600, 3) := by decide +kernel
theorem dX10_init_17 : decode cX10_init 17 = .ok (.newarray .int, 2) := by decide +kernel
theorem dX10_init_19 : decode cX10_init 19 = .ok (.putfield 15, 3) := by decide +kernel
theorem dX10_init_22 : decode cX10_init 22 = .ok (.aload_n 0, 1) := by decide +kernel
theorem dX10_init_23 : decode cX10_init 23 = .ok (.sipush 1600, 3) := by decide +kernel
theorem dX10_init_26 : decode cX10_init 26 = .ok (.newarray .int, 2) := by decide +kernel
theorem dX10_init_28 : decode cX10_init 28 = .ok (.putfield 18, 3) := by decide +kernel
theorem dX10_init_31 : decode cX10_init 31 = .ok (.aload_n 0, 1) := by decide +kernel
theorem dX10_init_32 : decode cX10_init 32 = .ok (.sipush 1600, 3) := by decide +kernel
theorem dX10_init_35 : decode cX10_init 35 = .ok (.newarray .int, 2) := by decide +kernel
theorem dX10_init_37 : decode cX10_init 37 = .ok (.putfield 21, 3) := by decide +kernel
theorem dX10_init_40 : decode cX10_init 40 = .ok (.aload_n 0, 1) := by decide +kernel
theorem dX10_init_41 : decode cX10_init 41 = .ok (.sipush 1600, 3) := by decide +kernel
theorem dX10_init_44 : decode cX10_init 44 = .ok (.newarray .int, 2) := by decide +kernel
theorem dX10_init_46 : decode cX10_init 46 = .ok (.putfield 24, 3) := by decide +kernel
theorem dX10_init_49 : decode cX10_init 49 = .ok (.aload_n 0, 1) := by decide +kernel
theorem dX10_init_50 : decode cX10_init 50 = .ok (.sipush 1600, 3) := by decide +kernel
theorem dX10_init_53 : decode cX10_init 53 = .ok (.newarray .int, 2) := by decide +kernel
theorem dX10_init_55 : decode cX10_init 55 = .ok (.putfield 27, 3) := by decide +kernel
theorem dX10_init_58 : decode cX10_init 58 = .ok (.aload_n 0, 1) := by decide +kernel
theorem dX10_init_59 : decode cX10_init 59 = .ok (.sipush 1000, 3) := by decide +kernel
theorem dX10_init_62 : decode cX10_init 62 = .ok (.newarray .int, 2) := by decide +kernel
theorem dX10_init_64 : decode cX10_init 64 = .ok (.putfield 30, 3) := by decide +kernel
theorem dX10_init_67 : decode cX10_init 67 = .ok (.aload_n 0, 1) := by decide +kernel
theorem dX10_init_68 : decode cX10_init 68 = .ok (.iconst 0, 1) := by decide +kernel
theorem dX10_init_69 : decode cX10_init 69 = .ok (.putfield 33, 3) := by decide +kernel
theorem dX10_init_72 : decode cX10_init 72 = .ok (.aload_n 0, 1) := by decide +kernel
theorem dX10_init_73 : decode cX10_init 73 = .ok (.iconst 0, 1) := by decide +kernel
theorem dX10_init_74 : decode cX10_init 74 = .ok (.putfield 37, 3) := by decide +kernel
theorem dX10_init_77 : decode cX10_init 77 = .ok (.return_, 1) := by decide +kernel
theorem dX10_clear_0 : decode cX10_clear 0 = .ok (.aload_n 0, 1) := by decide +kernel
theorem dX10_clear_1 : decode cX10_clear 1 = .ok (.iconst 0, 1) := by decide +kernel
theorem dX10_clear_2 : decode cX10_clear 2 = .ok (.putfield 33, 3) := by decide +kernel
theorem dX10_clear_5 : decode cX10_clear 5 = .ok (.aload_n 0, 1) := by decide +kernel
theorem dX10_clear_6 : decode cX10_clear 6 = .ok (.iconst 0, 1) := by decide +kernel
theorem dX10_clear_7 : decode cX10_clear 7 = .ok (.putfield 37, 3) := by decide +kernel
theorem dX10_clear_10 : decode cX10_clear 10 = .ok (.aload_n 0, 1) := by decide +kernel
theorem dX10_clear_11 : decode cX10_clear 11 = .ok (.iconst 0, 1) := by decide +kernel
theorem dX10_clear_12 : decode cX10_clear 12 = .ok (.iconst (-1), 1) := by decide +kernel
theorem dX10_clear_13 : decode cX10_clear 13 = .ok (.iconst (-1), 1) := by decide +kernel
theorem dX10_clear_14 : decode cX10_clear 14 = .ok (.iconst 1, 1) := by decide +kernel
theorem dX10_clear_15 : decode cX10_clear 15 = .ok (.invokevirtual 40, 3) := by decide +kernel
theorem dX10_clear_18 : decode cX10_clear 18 = .ok (.pop, 1) := by decide +kernel
theorem dX10_clear_19 : decode cX10_clear 19 = .ok (.aload_n 0, 1) := by decide +kernel
theorem dX10_clear_20 : decode cX10_clear 20 = .ok (.iconst 1, 1) := by decide +kernel
theorem dX10_clear_21 : decode cX10_clear 21 = .ok (.iconst (-1), 1) := by decide +kernel
theorem dX10_clear_22 : decode cX10_clear 22 = .ok (.iconst (-1), 1) := by decide +kernel
theorem dX10_clear_23 : decode cX10_clear 23 = .ok (.iconst 1, 1) := by decide +kernel
theorem dX10_clear_24 : decode cX10_clear 24 = .ok (.invokevirtual 40, 3) := by decide +kernel
theorem dX10_clear_27 : decode cX10_clear 27 = .ok (.pop, 1) := by decide +kernel
theorem dX10_clear_28 : decode cX10_clear 28 = .ok (.return_, 1) := by decide +kernel
theorem dX10_add_0 : decode cX10_add 0 = .ok (.aload_n 0, 1) := by decide +kernel
theorem dX10_add_1 : decode cX10_add 1 = .ok (.getfield 33, 3) := by decide +kernel
theorem dX10_add_4 : decode cX10_add 4 = .ok (.sipush 1600, 3) := by decide +kernel
theorem dX10_add_7 : decode cX10_add 7 = .ok (.if_icmp .lt 5, 3) := by decide +kernel
theorem dX10_add_12 : decode cX10_add 12 = .ok (.aload_n 0, 1) := by decide +kernel
theorem dX10_add_13 : decode cX10_add 13 = .ok (.getfield 33, 3) := by decide +kernel
theorem dX10_add_16 : decode cX10_add 16 = .ok (.istore 5, 2) := by decide +kernel
theorem dX10_add_18 : decode cX10_add 18 = .ok (.aload_n 0, 1) := by decide +kernel
theorem dX10_add_19 : decode cX10_add 19 = .ok (.getfield 11, 3) := by decide +kernel
theorem dX10_add_22 : decode cX10_add 22 = .ok (.iload 5, 2) := by decide +kernel
theorem dX10_add_24 : decode cX10_add 24 = .ok (.iload_n 1, 1) := by decide +kernel
theorem dX10_add_25 : decode cX10_add 25 = .ok (.invokestatic 52, 3) := by decide +kernel
theorem dX10_add_28 : decode cX10_add 28 = .ok (.aload_n 0, 1) := by decide +kernel
theorem dX10_add_29 : decode cX10_add 29 = .ok (.getfield 15, 3) := by decide +kernel
theorem dX10_add_32 : decode cX10_add 32 = .ok (.iload 5, 2) := by decide +kernel
theorem dX10_add_34 : decode cX10_add 34 = .ok (.iload_n 2, 1) := by decide +kernel
theorem dX10_add_35 : decode cX10_add 35 = .ok (.invokestatic 52, 3) := by decide +kernel
theorem dX10_add_38 : decode cX10_add 38 = .ok (.aload_n 0, 1) := by decide +kernel
theorem dX10_add_39 : decode cX10_add 39 = .ok (.getfield 18, 3) := by decide +kernel
theorem dX10_add_42 : decode cX10_add 42 = .ok (.iload 5, 2) := by decide +kernel
theorem dX10_add_44 : decode cX10_add 44 = .ok (.iload_n 3, 1) := by decide +kernel
theorem dX10_add_45 : decode cX10_add 45 = .ok (.invokestatic 52, 3) := by decide +kernel
theorem dX10_add_48 : decode cX10_add 48 = .ok (.aload_n 0, 1) := by decide +kernel
theorem dX10_add_49 : decode cX10_add 49 = .ok (.getfield 21, 3) := by decide +kernel
theorem dX10_add_52 : decode cX10_add 52 = .ok (.iload 5, 2) := by decide +kernel
theorem dX10_add_54 : decode cX10_add 54 = .ok (.iload 4, 2) := by decide +kernel
theorem dX10_add_56 : decode cX10_add 56 = .ok (.invokestatic 52, 3) := by decide +kernel
theorem dX10_add_59 : decode cX10_add 59 = .ok (.aload_n 0, 1) := by decide +kernel
theorem dX10_add_60 : decode cX10_add 60 = .ok (.getfield 24, 3) := by decide +kernel
theorem dX10_add_63 : decode cX10_add 63 = .ok (.iload 5, 2) := by decide +kernel
theorem dX10_add_65 : decode cX10_add 65 = .ok (.iconst (-1), 1) := by decide +kernel
theorem dX10_add_66 : decode cX10_add 66 = .ok (.invokestatic 52, 3) := by decide +kernel
theorem dX10_add_69 : decode cX10_add 69 = .ok (.aload_n 0, 1) := by decide +kernel
theorem dX10_add_70 : decode cX10_add 70 = .ok (.getfield 27, 3) := by decide +kernel
theorem dX10_add_73 : decode cX10_add 73 = .ok (.iload 5, 2) := by decide +kernel
theorem dX10_add_75 : decode cX10_add 75 = .ok (.iconst 0, 1) := by decide +kernel
theorem dX10_add_76 : decode cX10_add 76 = .ok (.invokestatic 52, 3) := by decide +kernel
theorem dX10_add_79 : decode cX10_add 79 = .ok (.aload_n 0, 1) := by decide +kernel
theorem dX10_add_80 : decode cX10_add 80 = .ok (.dup, 1) := by decide +kernel
theorem dX10_add_81 : decode cX10_add 81 = .ok (.getfield 33, 3) := by decide +kernel
theorem dX10_add_84 : decode cX10_add 84 = .ok (.iconst 1, 1) := by decide +kernel
theorem dX10_add_85 : decode cX10_add 85 = .ok (.iadd, 1) := by decide +kernel
theorem dX10_add_86 : decode cX10_add 86 = .ok (.putfield 33, 3) := by decide +kernel
theorem dX10_add_89 : decode cX10_add 89 = .ok (.iload 5, 2) := by decide +kernel
theorem dX10_add_91 : decode cX10_add 91 = .ok (.ireturn, 1) := by decide +kernel
theorem dX11_init_0 : decode cX11_init 0 = .ok (.aload_n 0, 1) := by decide +kernel
theorem dX11_init_1 : decode cX11_init 1 = .ok (.invokespecial 1, 3) := by decide +kernel
theorem dX11_init_4 : decode cX11_init 4 = .ok (.aload_n 0, 1) := by decide +kernel
theorem dX11_init_5 : decode cX11_init 5 = .ok (.sipush 3000, 3) := by decide +kernel
theorem dX11_init_8 : decode cX11_init 8 = .ok (.newarray .byte, 2) := by decide +kernel
theorem dX11_init_10 : decode cX11_init 10 = .ok (.putfield 9, 3) := by decide +kernel
theorem dX11_init_13 : decode cX11_init 13 = .ok (.aload_n 0, 1) := by decide +kernel
theorem dX11_init_14 : decode cX11_init 14 = .ok (.iconst 0, 1) := by decide +kernel
theorem dX11_init_15 : decode cX11_init 15 = .ok (.putfield 13, 3) := by decide +kernel
theorem dX11_init_18 : decode cX11_init 18 = .ok (.aload_n 0, 1) := by decide +kernel
theorem dX11_init_19 : decode cX11_init 19 = .ok (.new 17, 3) := by decide +kernel
theorem dX11_init_22 : decode cX11_init 22 = .ok (.dup, 1) := by decide +kernel
theorem dX11_init_23 : decode cX11_init 23 = .ok (.sipush 20000, 3) := by decide +kernel
theorem dX11_init_26 : decode cX11_init 26 = .ok (.invokespecial 19, 3) := by decide +kernel
theorem dX11_init_29 : decode cX11_init 29 = .ok (.putfield 22, 3) := by decide +kernel
theorem dX11_init_32 : decode cX11_init 32 = .ok (.aload_n 0, 1) := by decide +kernel
theorem dX11_init_33 : decode cX11_init 33 = .ok (.new 26, 3) := by decide +kernel
theorem dX11_init_36 : decode cX11_init 36 = .ok (.dup, 1) := by decide +kernel
theorem dX11_init_37 : decode cX11_init 37 = .ok (.sipush 3000, 3) := by decide +kernel
theorem dX11_init_40 : decode cX11_init 40 = .ok (.invokespecial 28, 3) := by decide +kernel
theorem dX11_init_43 : decode cX11_init 43 = .ok (.putfield 29, 3) := by decide +kernel
theorem dX11_init_46 : decode cX11_init 46 = .ok (.aload_n 0, 1) := by decide +kernel
theorem dX11_init_47 : decode cX11_init 47 = .ok (.new 26, 3) := by decide +kernel
theorem dX11_init_50 : decode cX11_init 50 = .ok (.dup, 1) := by decide +kernel
theorem dX11_init_51 : decode cX11_init 51 = .ok (.sipush 3000, 3) := by decide +kernel
theorem dX11_init_54 : decode cX11_init 54 = .ok (.invokespecial 28, 3) := by decide +kernel
theorem dX11_init_57 : decode cX11_init 57 = .ok (.putfield 33, 3) := by decide +kernel
theorem dX11_init_60 : decode cX11_init 60 = .ok (.aload_n 0, 1) := by decide +kernel
theorem dX11_init_61 : decode cX11_init 61 = .ok (.iconst 0, 1) := by decide +kernel
theorem dX11_init_62 : decode cX11_init 62 = .ok (.putfield 36, 3) := by decide +kernel
theorem dX11_init_65 : decode cX11_init 65 = .ok (.aload_n 0, 1) := by decide +kernel
theorem dX11_init_66 : decode cX11_init 66 = .ok (.iconst 0, 1) := by decide +kernel
theorem dX11_init_67 : decode cX11_init 67 = .ok (.putfield 40, 3) := by decide +kernel
theorem dX11_init_70 : decode cX11_init 70 = .ok (.aload_n 0, 1) := by decide +kernel
theorem dX11_init_71 : decode cX11_init 71 = .ok (.iconst (-1), 1) := by decide +kernel
theorem dX11_init_72 : decode cX11_init 72 = .ok (.putfield 43, 3) := by decide +kernel
theorem dX11_init_75 : decode cX11_init 75 = .ok (.aload_n 0, 1) := by decide +kernel
theorem dX11_init_76 : decode cX11_init 76 = .ok (.new 46, 3) := by decide +kernel
theorem dX11_init_79 : decode cX11_init 79 = .ok (.dup, 1) := by decide +kernel
theorem dX11_init_80 : decode cX11_init 80 = .ok (.aload_n 0, 1) := by decide +kernel
theorem dX11_init_81 : decode cX11_init 81 = .ok (.getfield 29, 3) := by decide +kernel
theorem dX11_init_84 : decode cX11_init 84 = .ok (.invokespecial 48, 3) := by decide +kernel
theorem dX11_init_87 : decode cX11_init 87 = .ok (.putfield 51, 3) := by decide +kernel
theorem dX11_init_90 : decode cX11_init 90 = .ok (.aload_n 0, 1) := by decide +kernel
theorem dX11_init_91 : decode cX11_init 91 = .ok (.new 55, 3) := by decide +kernel
theorem dX11_init_94 : decode cX11_init 94 = .ok (.dup, 1) := by decide +kernel
theorem dX11_init_95 : decode cX11_init 95 = .ok (.aload_n 0, 1) := by decide +kernel
theorem dX11_init_96 : decode cX11_init 96 = .ok (.getfield 29, 3) := by decide +kernel
theorem dX11_init_99 : decode cX11_init 99 = .ok (.invokespecial 57, 3) := by decide +kernel
theorem dX11_init_102 : decode cX11_init 102 = .ok (.putfield 58, 3) := by decide +kernel
theorem dX11_init_105 : decode cX11_init 105 = .ok (.aload_n 0, 1) := by decide +kernel
theorem dX11_init_106 : decode cX11_init 106 = .ok (.new 62, 3) := by decide +kernel
theorem dX11_init_109 : decode cX11_init 109 = .ok (.dup, 1) := by decide +kernel
theorem dX11_init_110 : decode cX11_init 110 = .ok (.invokespecial 64, 3) := by decide +kernel
theorem dX11_init_113 : decode cX11_init 113 = .ok (.putfield 65, 3) := by decide +kernel
theorem dX11_init_116 : decode cX11_init 116 = .ok (.aload_n 0, 1) := by decide +kernel
theorem dX11_init_117 : decode cX11_init 117 = .ok (.new 69, 3) := by decide +kernel
theorem dX11_init_120 : decode cX11_init 120 = .ok (.dup, 1) := by decide +kernel
theorem dX11_init_121 : decode cX11_init 121 = .ok (.aload_n 0, 1) := by decide +kernel
theorem dX11_init_122 : decode cX11_init 122 = .ok (.getfield 29, 3) := by decide +kernel
theorem dX11_init_125 : decode cX11_init 125 = .ok (.aload_n 0, 1) := by decide +kernel
theorem dX11_init_126 : decode cX11_init 126 = .ok (.getfield 22, 3) := by decide +kernel
theorem dX11_init_129 : decode cX11_init 129 = .ok (.invokespecial 71, 3) := by decide +kernel
theorem dX11_init_132 : decode cX11_init 132 = .ok (.putfield 74, 3) := by decide +kernel
theorem dX11_init_135 : decode cX11_init 135 = .ok (.aload_n 0, 1) := by decide +kernel
theorem dX11_init_136 : decode cX11_init 136 = .ok (.new 78, 3) := by decide +kernel
theorem dX11_init_139 : decode cX11_init 139 = .ok (.dup, 1) := by decide +kernel
theorem dX11_init_140 : decode cX11_init 140 = .ok (.aload_n 0, 1) := by decide +kernel
theorem dX11_init_141 : decode cX11_init 141 = .ok (.getfield 29, 3) := by decide +kernel
theorem dX11_init_144 : decode cX11_init 144 = .ok (.invokespecial 80, 3) := by decide +kernel
theorem dX11_init_147 : decode cX11_init 147 = .ok (.putfield 81, 3) := by decide +kernel
theorem dX11_init_150 : decode cX11_init 150 = .ok (.aload_n 0, 1) := by decide +kernel
theorem dX11_init_151 : decode cX11_init 151 = .ok (.new 85, 3) := by decide +kernel
theorem dX11_init_154 : decode cX11_init 154 = .ok (.dup, 1) := by decide +kernel
theorem dX11_init_155 : decode cX11_init 155 = .ok (.aload_n 0, 1) := by decide +kernel
theorem dX11_init_156 : decode cX11_init 156 = .ok (.getfield 29, 3) := by decide +kernel
theorem dX11_init_159 : decode cX11_init 159 = .ok (.aload_n 0, 1) := by decide +kernel
theorem dX11_init_160 : decode cX11_init 160 = .ok (.getfield 81, 3) := by decide +kernel
theorem dX11_init_163 : decode cX11_init 163 = .ok (.invokespecial 87, 3) := by decide +kernel
theorem dX11_init_166 : decode cX11_init 166 = .ok (.putfield 90, 3) := by decide +kernel
theorem dX11_init_169 : decode cX11_init 169 = .ok (.return_, 1) := by decide +kernel
theorem dX11_feed_0 : decode cX11_feed 0 = .ok (.aload_n 0, 1) := by decide +kernel
theorem dX11_feed_1 : decode cX11_feed 1 = .ok (.getfield 13, 3) := by decide +kernel
theorem dX11_feed_4 : decode cX11_feed 4 = .ok (.bipush 20, 2) := by decide +kernel
theorem dX11_feed_6 : decode cX11_feed 6 = .ok (.iadd, 1) := by decide +kernel
theorem dX11_feed_7 : decode cX11_feed 7 = .ok (.sipush 3000, 3) := by decide +kernel
theorem dX11_feed_10 : decode cX11_feed 10 = .ok (.if_icmp .le 5, 3) := by decide +kernel
theorem dX11_feed_15 : decode cX11_feed 15 = .ok (.aload_n 0, 1) := by decide +kernel
theorem dX11_feed_16 : decode cX11_feed 16 = .ok (.iload_n 1, 1) := by decide +kernel
theorem dX11_feed_17 : decode cX11_feed 17 = .ok (.invokevirtual 94, 3) := by decide +kernel
theorem dX11_feed_20 : decode cX11_feed 20 = .ok (.aload_n 0, 1) := by decide +kernel
theorem dX11_feed_21 : decode cX11_feed 21 = .ok (.iload_n 2, 1) := by decide +kernel
theorem dX11_feed_22 : decode cX11_feed 22 = .ok (.invokevirtual 94, 3) := by decide +kernel
theorem dX11_feed_25 : decode cX11_feed 25 = .ok (.aload_n 0, 1) := by decide +kernel
theorem dX11_feed_26 : decode cX11_feed 26 = .ok (.iload_n 3, 1) := by decide +kernel
theorem dX11_feed_27 : decode cX11_feed 27 = .ok (.invokevirtual 94, 3) := by decide +kernel
theorem dX11_feed_30 : decode cX11_feed 30 = .ok (.aload_n 0, 1) := by decide +kernel
theorem dX11_feed_31 : decode cX11_feed 31 = .ok (.iload 4, 2) := by decide +kernel
theorem dX11_feed_33 : decode cX11_feed 33 = .ok (.invokevirtual 94, 3) := by decide +kernel
theorem dX11_feed_36 : decode cX11_feed 36 = .ok (.aload_n 0, 1) := by decide +kernel
theorem dX11_feed_37 : decode cX11_feed 37 = .ok (.iload 5, 2) := by decide +kernel
theorem dX11_feed_39 : decode cX11_feed 39 = .ok (.invokevirtual 94, 3) := by decide +kernel
theorem dX11_feed_42 : decode cX11_feed 42 = .ok (.aload_n 0, 1) := by decide +kernel
theorem dX11_feed_43 : decode cX11_feed 43 = .ok (.getfield 13, 3) := by decide +kernel
theorem dX11_feed_46 : decode cX11_feed 46 = .ok (.ireturn, 1) := by decide +kernel
theorem dX11_program_0 : decode cX11_program 0 = .ok (.iload_n 1, 1) := by decide +kernel
theorem dX11_program_1 : decode cX11_program 1 = .ok (.ifCond .lt 11, 3) := by decide +kernel
theorem dX11_program_4 : decode cX11_program 4 = .ok (.iload_n 1, 1) := by decide +kernel
theorem dX11_program_5 : decode cX11_program 5 = .ok (.aload_n 0, 1) := by decide +kernel
theorem dX11_program_6 : decode cX11_program 6 = .ok (.getfield 13, 3) := by decide +kernel
theorem dX11_program_9 : decode cX11_program 9 = .ok (.if_icmp .le 13, 3) := by decide +kernel
theorem dX11_program_12 : decode cX11_program 12 = .ok (.new 97, 3) := by decide +kernel
theorem dX11_program_15 : decode cX11_program 15 = .ok (.dup, 1) := by decide +kernel
theorem dX11_program_16 : decode cX11_program 16 = .ok (.ldc 99, 2) := by decide +kernel
theorem dX11_program_18 : decode cX11_program 18 = .ok (.invokespecial 101, 3) := by decide +kernel
theorem dX11_program_21 : decode cX11_program 21 = .ok (.athrow, 1) := by decide +kernel
theorem dX11_program_22 : decode cX11_program 22 = .ok (.aload_n 0, 1) := by decide +kernel
theorem dX11_program_23 : decode cX11_program 23 = .ok (.iconst 0, 1) := by decide +kernel
theorem dX11_program_24 : decode cX11_program 24 = .ok (.putfield 13, 3) := by decide +kernel
theorem dX11_program_27 : decode cX11_program 27 = .ok (.aload_n 0, 1) := by decide +kernel
theorem dX11_program_28 : decode cX11_program 28 = .ok (.getfield 33, 3) := by decide +kernel
theorem dX11_program_31 : decode cX11_program 31 = .ok (.astore_n 2, 1) := by decide +kernel
theorem dX11_program_32 : decode cX11_program 32 = .ok (.aload_n 2, 1) := by decide +kernel
theorem dX11_program_33 : decode cX11_program 33 = .ok (.aload_n 0, 1) := by decide +kernel
theorem dX11_program_34 : decode cX11_program 34 = .ok (.getfield 9, 3) := by decide +kernel
theorem dX11_program_37 : decode cX11_program 37 = .ok (.iload_n 1, 1) := by decide +kernel
theorem dX11_program_38 : decode cX11_program 38 = .ok (.invokevirtual 104, 3) := by decide +kernel
theorem dX11_program_41 : decode cX11_program 41 = .ok (.aload_n 0, 1) := by decide +kernel
theorem dX11_program_42 : decode cX11_program 42 = .ok (.getfield 51, 3) := by decide +kernel
theorem dX11_program_45 : decode cX11_program 45 = .ok (.aload_n 2, 1) := by decide +kernel
theorem dX11_program_46 : decode cX11_program 46 = .ok (.invokevirtual 108, 3) := by decide +kernel
theorem dX11_program_49 : decode cX11_program 49 = .ok (.aload_n 2, 1) := by decide +kernel
theorem dX11_program_50 : decode cX11_program 50 = .ok (.invokevirtual 111, 3) := by decide +kernel
theorem dX11_program_53 : decode cX11_program 53 = .ok (.ifCond .ne 11, 3) := by decide +kernel
theorem dX11_program_64 : decode cX11_program 64 = .ok (.aload_n 2, 1) := by decide +kernel
theorem dX11_program_65 : decode cX11_program 65 = .ok (.invokevirtual 111, 3) := by decide +kernel
theorem dX11_program_68 : decode cX11_program 68 = .ok (.ifCond .ne 11, 3) := by decide +kernel
theorem dX11_program_79 : decode cX11_program 79 = .ok (.aload_n 0, 1) := by decide +kernel
theorem dX11_program_80 : decode cX11_program 80 = .ok (.aload_n 2, 1) := by decide +kernel
theorem dX11_program_81 : decode cX11_program 81 = .ok (.invokevirtual 111, 3) := by decide +kernel
theorem dX11_program_84 : decode cX11_program 84 = .ok (.putfield 40, 3) := by decide +kernel
theorem dX11_program_87 : decode cX11_program 87 = .ok (.aload_n 0, 1) := by decide +kernel
theorem dX11_program_88 : decode cX11_program 88 = .ok (.aload_n 2, 1) := by decide +kernel
theorem dX11_program_89 : decode cX11_program 89 = .ok (.invokevirtual 120, 3) := by decide +kernel
theorem dX11_program_92 : decode cX11_program 92 = .ok (.putfield 43, 3) := by decide +kernel
theorem dX11_program_95 : decode cX11_program 95 = .ok (.aload_n 0, 1) := by decide +kernel
theorem dX11_program_96 : decode cX11_program 96 = .ok (.getfield 40, 3) := by decide +kernel
theorem dX11_program_99 : decode cX11_program 99 = .ok (.ifCond .ne 21, 3) := by decide +kernel
theorem dX11_program_120 : decode cX11_program 120 = .ok (.aload_n 0, 1) := by decide +kernel
theorem dX11_program_121 : decode cX11_program 121 = .ok (.getfield 40, 3) := by decide +kernel
theorem dX11_program_124 : decode cX11_program 124 = .ok (.ireturn, 1) := by decide +kernel
theorem dX11_fault_0 : decode cX11_fault 0 = .ok (.iload_n 1, 1) := by decide +kernel
theorem dX11_fault_1 : decode cX11_fault 1 = .ok (.lookupswitch 37 #[(0, 27), (1, 32)], 27) := by decide +kernel
theorem dX11_fault_28 : decode cX11_fault 28 = .ok (.aload_n 0, 1) := by decide +kernel
theorem dX11_fault_29 : decode cX11_fault 29 = .ok (.getfield 40, 3) := by decide +kernel
theorem dX11_fault_32 : decode cX11_fault 32 = .ok (.ireturn, 1) := by decide +kernel
theorem dX11_fault_33 : decode cX11_fault 33 = .ok (.aload_n 0, 1) := by decide +kernel
theorem dX11_fault_34 : decode cX11_fault 34 = .ok (.getfield 43, 3) := by decide +kernel
theorem dX11_fault_37 : decode cX11_fault 37 = .ok (.ireturn, 1) := by decide +kernel
theorem dX11_fault_38 : decode cX11_fault 38 = .ok (.new 122, 3) := by decide +kernel
theorem dX11_fault_41 : decode cX11_fault 41 = .ok (.dup, 1) := by decide +kernel
theorem dX11_fault_42 : decode cX11_fault 42 = .ok (.ldc 124, 2) := by decide +kernel
theorem dX11_fault_44 : decode cX11_fault 44 = .ok (.invokespecial 126, 3) := by decide +kernel
theorem dX11_fault_47 : decode cX11_fault 47 = .ok (.athrow, 1) := by decide +kernel
theorem dX11_count_0 : decode cX11_count 0 = .ok (.iload_n 1, 1) := by decide +kernel
theorem dX11_count_1 : decode cX11_count 1 = .ok (.tableswitch 143 0 6 #[43, 56, 78, 100, 122, 130, 135], 43) := by decide +kernel
theorem dX11_count_44 : decode cX11_count 44 = .ok (.aload_n 0, 1) := by decide +kernel
theorem dX11_count_45 : decode cX11_count 45 = .ok (.getfield 36, 3) := by decide +kernel
theorem dX11_count_48 : decode cX11_count 48 = .ok (.ifCond .eq 7, 3) := by decide +kernel
theorem dX11_count_55 : decode cX11_count 55 = .ok (.iconst 0, 1) := by decide +kernel
theorem dX11_count_56 : decode cX11_count 56 = .ok (.ireturn, 1) := by decide +kernel
theorem dX11_count_57 : decode cX11_count 57 = .ok (.aload_n 0, 1) := by decide +kernel
theorem dX11_count_58 : decode cX11_count 58 = .ok (.getfield 36, 3) := by decide +kernel
theorem dX11_count_61 : decode cX11_count 61 = .ok (.ifCond .eq 16, 3) := by decide +kernel
theorem dX11_count_77 : decode cX11_count 77 = .ok (.iconst 0, 1) := by decide +kernel
theorem dX11_count_78 : decode cX11_count 78 = .ok (.ireturn, 1) := by decide +kernel
theorem dX11_count_79 : decode cX11_count 79 = .ok (.aload_n 0, 1) := by decide +kernel
theorem dX11_count_80 : decode cX11_count 80 = .ok (.getfield 36, 3) := by decide +kernel
theorem dX11_count_83 : decode cX11_count 83 = .ok (.ifCond .eq 16, 3) := by decide +kernel
theorem dX11_count_99 : decode cX11_count 99 = .ok (.iconst 0, 1) := by decide +kernel
theorem dX11_count_100 : decode cX11_count 100 = .ok (.ireturn, 1) := by decide +kernel
theorem dX11_count_101 : decode cX11_count 101 = .ok (.aload_n 0, 1) := by decide +kernel
theorem dX11_count_102 : decode cX11_count 102 = .ok (.getfield 36, 3) := by decide +kernel
theorem dX11_count_105 : decode cX11_count 105 = .ok (.ifCond .eq 16, 3) := by decide +kernel
theorem dX11_count_121 : decode cX11_count 121 = .ok (.iconst 0, 1) := by decide +kernel
theorem dX11_count_122 : decode cX11_count 122 = .ok (.ireturn, 1) := by decide +kernel
theorem dX11_count_123 : decode cX11_count 123 = .ok (.aload_n 0, 1) := by decide +kernel
theorem dX11_count_124 : decode cX11_count 124 = .ok (.getfield 22, 3) := by decide +kernel
theorem dX11_count_127 : decode cX11_count 127 = .ok (.invokevirtual 148, 3) := by decide +kernel
theorem dX11_count_130 : decode cX11_count 130 = .ok (.ireturn, 1) := by decide +kernel
theorem dX11_count_131 : decode cX11_count 131 = .ok (.aload_n 0, 1) := by decide +kernel
theorem dX11_count_132 : decode cX11_count 132 = .ok (.getfield 13, 3) := by decide +kernel
theorem dX11_count_135 : decode cX11_count 135 = .ok (.ireturn, 1) := by decide +kernel
theorem dX11_count_136 : decode cX11_count 136 = .ok (.aload_n 0, 1) := by decide +kernel
theorem dX11_count_137 : decode cX11_count 137 = .ok (.getfield 90, 3) := by decide +kernel
theorem dX11_count_140 : decode cX11_count 140 = .ok (.invokevirtual 151, 3) := by decide +kernel
theorem dX11_count_143 : decode cX11_count 143 = .ok (.ireturn, 1) := by decide +kernel
theorem dX11_count_144 : decode cX11_count 144 = .ok (.new 122, 3) := by decide +kernel
theorem dX11_count_147 : decode cX11_count 147 = .ok (.dup, 1) := by decide +kernel
theorem dX11_count_148 : decode cX11_count 148 = .ok (.ldc 154, 2) := by decide +kernel
theorem dX11_count_150 : decode cX11_count 150 = .ok (.invokespecial 126, 3) := by decide +kernel
theorem dX11_count_153 : decode cX11_count 153 = .ok (.athrow, 1) := by decide +kernel
theorem dX11_function_0 : decode cX11_function 0 = .ok (.aload_n 0, 1) := by decide +kernel
theorem dX11_function_1 : decode cX11_function 1 = .ok (.iload_n 1, 1) := by decide +kernel
theorem dX11_function_2 : decode cX11_function 2 = .ok (.invokevirtual 156, 3) := by decide +kernel
theorem dX11_function_5 : decode cX11_function 5 = .ok (.ifCond .ne 13, 3) := by decide +kernel
theorem dX11_function_8 : decode cX11_function 8 = .ok (.new 122, 3) := by decide +kernel
theorem dX11_function_11 : decode cX11_function 11 = .ok (.dup, 1) := by decide +kernel
theorem dX11_function_12 : decode cX11_function 12 = .ok (.ldc 160, 2) := by decide +kernel
theorem dX11_function_14 : decode cX11_function 14 = .ok (.invokespecial 126, 3) := by decide +kernel
theorem dX11_function_17 : decode cX11_function 17 = .ok (.athrow, 1) := by decide +kernel
theorem dX11_needs_0 : decode cX11_needs 0 = .ok (.aload_n 0, 1) := by decide +kernel
theorem dX11_needs_1 : decode cX11_needs 1 = .ok (.iload_n 1, 1) := by decide +kernel
theorem dX11_needs_2 : decode cX11_needs 2 = .ok (.invokevirtual 156, 3) := by decide +kernel
theorem dX11_needs_5 : decode cX11_needs 5 = .ok (.ifCond .eq 23, 3) := by decide +kernel
theorem dX11_needs_28 : decode cX11_needs 28 = .ok (.new 122, 3) := by decide +kernel
theorem dX11_needs_31 : decode cX11_needs 31 = .ok (.dup, 1) := by decide +kernel
theorem dX11_needs_32 : decode cX11_needs 32 = .ok (.ldc 184, 2) := by decide +kernel
theorem dX11_needs_34 : decode cX11_needs 34 = .ok (.invokespecial 126, 3) := by decide +kernel
theorem dX11_needs_37 : decode cX11_needs 37 = .ok (.athrow, 1) := by decide +kernel
theorem dX11_text_0 : decode cX11_text 0 = .ok (.aload_n 0, 1) := by decide +kernel
theorem dX11_text_1 : decode cX11_text 1 = .ok (.getfield 22, 3) := by decide +kernel
theorem dX11_text_4 : decode cX11_text 4 = .ok (.invokevirtual 190, 3) := by decide +kernel
theorem dX11_text_7 : decode cX11_text 7 = .ok (.aload_n 0, 1) := by decide +kernel
theorem dX11_text_8 : decode cX11_text 8 = .ok (.getfield 36, 3) := by decide +kernel
theorem dX11_text_11 : decode cX11_text 11 = .ok (.ifCond .eq 10, 3) := by decide +kernel
theorem dX11_text_21 : decode cX11_text 21 = .ok (.iconst (-1), 1) := by decide +kernel
theorem dX11_text_22 : decode cX11_text 22 = .ok (.ireturn, 1) := by decide +kernel
theorem dX11_type_0 : decode cX11_type 0 = .ok (.aload_n 0, 1) := by decide +kernel
theorem dX11_type_1 : decode cX11_type 1 = .ok (.getfield 22, 3) := by decide +kernel
theorem dX11_type_4 : decode cX11_type 4 = .ok (.invokevirtual 190, 3) := by decide +kernel
theorem dX11_type_7 : decode cX11_type 7 = .ok (.aload_n 0, 1) := by decide +kernel
theorem dX11_type_8 : decode cX11_type 8 = .ok (.getfield 36, 3) := by decide +kernel
theorem dX11_type_11 : decode cX11_type 11 = .ok (.ifCond .ne 5, 3) := by decide +kernel
theorem dX11_type_14 : decode cX11_type 14 = .ok (.iconst (-1), 1) := by decide +kernel
theorem dX11_type_15 : decode cX11_type 15 = .ok (.ireturn, 1) := by decide +kernel
theorem dX11_run_0 : decode cX11_run 0 = .ok (.aload_n 0, 1) := by decide +kernel
theorem dX11_run_1 : decode cX11_run 1 = .ok (.getfield 36, 3) := by decide +kernel
theorem dX11_run_4 : decode cX11_run 4 = .ok (.ifCond .eq 22, 3) := by decide +kernel
theorem dX11_run_26 : decode cX11_run 26 = .ok (.iconst (-1), 1) := by decide +kernel
theorem dX11_run_27 : decode cX11_run 27 = .ok (.ireturn, 1) := by decide +kernel
theorem dX11_cost_0 : decode cX11_cost 0 = .ok (.iload_n 1, 1) := by decide +kernel
theorem dX11_cost_1 : decode cX11_cost 1 = .ok (.tableswitch 63 0 3 #[31, 39, 47, 55], 31) := by decide +kernel
theorem dX11_cost_32 : decode cX11_cost 32 = .ok (.aload_n 0, 1) := by decide +kernel
theorem dX11_cost_33 : decode cX11_cost 33 = .ok (.getfield 90, 3) := by decide +kernel
theorem dX11_cost_36 : decode cX11_cost 36 = .ok (.invokevirtual 216, 3) := by decide +kernel
theorem dX11_cost_39 : decode cX11_cost 39 = .ok (.ireturn, 1) := by decide +kernel
theorem dX11_cost_40 : decode cX11_cost 40 = .ok (.aload_n 0, 1) := by decide +kernel
theorem dX11_cost_41 : decode cX11_cost 41 = .ok (.getfield 90, 3) := by decide +kernel
theorem dX11_cost_44 : decode cX11_cost 44 = .ok (.invokevirtual 219, 3) := by decide +kernel
theorem dX11_cost_47 : decode cX11_cost 47 = .ok (.ireturn, 1) := by decide +kernel
theorem dX11_cost_48 : decode cX11_cost 48 = .ok (.aload_n 0, 1) := by decide +kernel
theorem dX11_cost_49 : decode cX11_cost 49 = .ok (.getfield 90, 3) := by decide +kernel
theorem dX11_cost_52 : decode cX11_cost 52 = .ok (.invokevirtual 222, 3) := by decide +kernel
theorem dX11_cost_55 : decode cX11_cost 55 = .ok (.ireturn, 1) := by decide +kernel
theorem dX11_cost_56 : decode cX11_cost 56 = .ok (.aload_n 0, 1) := by decide +kernel
theorem dX11_cost_57 : decode cX11_cost 57 = .ok (.getfield 90, 3) := by decide +kernel
theorem dX11_cost_60 : decode cX11_cost 60 = .ok (.invokevirtual 225, 3) := by decide +kernel
theorem dX11_cost_63 : decode cX11_cost 63 = .ok (.ireturn, 1) := by decide +kernel
theorem dX11_cost_64 : decode cX11_cost 64 = .ok (.new 122, 3) := by decide +kernel
theorem dX11_cost_67 : decode cX11_cost 67 = .ok (.dup, 1) := by decide +kernel
theorem dX11_cost_68 : decode cX11_cost 68 = .ok (.ldc 228, 2) := by decide +kernel
theorem dX11_cost_70 : decode cX11_cost 70 = .ok (.invokespecial 126, 3) := by decide +kernel
theorem dX11_cost_73 : decode cX11_cost 73 = .ok (.athrow, 1) := by decide +kernel
theorem dX11_answer_0 : decode cX11_answer 0 = .ok (.aload_n 0, 1) := by decide +kernel
theorem dX11_answer_1 : decode cX11_answer 1 = .ok (.getfield 22, 3) := by decide +kernel
theorem dX11_answer_4 : decode cX11_answer 4 = .ok (.invokevirtual 190, 3) := by decide +kernel
theorem dX11_answer_7 : decode cX11_answer 7 = .ok (.aload_n 0, 1) := by decide +kernel
theorem dX11_answer_8 : decode cX11_answer 8 = .ok (.getfield 90, 3) := by decide +kernel
theorem dX11_answer_11 : decode cX11_answer 11 = .ok (.invokevirtual 216, 3) := by decide +kernel
theorem dX11_answer_14 : decode cX11_answer 14 = .ok (.ifCond .eq 5, 3) := by decide +kernel
theorem dX11_answer_17 : decode cX11_answer 17 = .ok (.iconst (-1), 1) := by decide +kernel
theorem dX11_answer_18 : decode cX11_answer 18 = .ok (.ireturn, 1) := by decide +kernel
theorem dX11_told_0 : decode cX11_told 0 = .ok (.aload_n 0, 1) := by decide +kernel
theorem dX11_told_1 : decode cX11_told 1 = .ok (.getfield 22, 3) := by decide +kernel
theorem dX11_told_4 : decode cX11_told 4 = .ok (.iload_n 1, 1) := by decide +kernel
theorem dX11_told_5 : decode cX11_told 5 = .ok (.invokevirtual 238, 3) := by decide +kernel
theorem dX11_told_8 : decode cX11_told 8 = .ok (.ifCond .ne 13, 3) := by decide +kernel
theorem dX11_told_11 : decode cX11_told 11 = .ok (.new 122, 3) := by decide +kernel
theorem dX11_told_14 : decode cX11_told 14 = .ok (.dup, 1) := by decide +kernel
theorem dX11_told_15 : decode cX11_told 15 = .ok (.ldc 241, 2) := by decide +kernel
theorem dX11_told_17 : decode cX11_told 17 = .ok (.invokespecial 126, 3) := by decide +kernel
theorem dX11_told_20 : decode cX11_told 20 = .ok (.athrow, 1) := by decide +kernel
theorem dX11_feedNumber_0 : decode cX11_feedNumber 0 = .ok (.bipush 24, 2) := by decide +kernel
theorem dX11_feedNumber_2 : decode cX11_feedNumber 2 = .ok (.istore_n 2, 1) := by decide +kernel
theorem dX11_feedNumber_3 : decode cX11_feedNumber 3 = .ok (.iload_n 2, 1) := by decide +kernel
theorem dX11_feedNumber_4 : decode cX11_feedNumber 4 = .ok (.ifCond .lt 44, 3) := by decide +kernel
theorem dX11_feedNumber_7 : decode cX11_feedNumber 7 = .ok (.aload_n 0, 1) := by decide +kernel
theorem dX11_feedNumber_8 : decode cX11_feedNumber 8 = .ok (.getfield 13, 3) := by decide +kernel
theorem dX11_feedNumber_11 : decode cX11_feedNumber 11 = .ok (.aload_n 0, 1) := by decide +kernel
theorem dX11_feedNumber_12 : decode cX11_feedNumber 12 = .ok (.getfield 9, 3) := by decide +kernel
theorem dX11_feedNumber_15 : decode cX11_feedNumber 15 = .ok (.arraylength, 1) := by decide +kernel
theorem dX11_feedNumber_16 : decode cX11_feedNumber 16 = .ok (.if_icmp .ge 26, 3) := by decide +kernel
theorem dX11_feedNumber_19 : decode cX11_feedNumber 19 = .ok (.aload_n 0, 1) := by decide +kernel
theorem dX11_feedNumber_20 : decode cX11_feedNumber 20 = .ok (.getfield 9, 3) := by decide +kernel
theorem dX11_feedNumber_23 : decode cX11_feedNumber 23 = .ok (.aload_n 0, 1) := by decide +kernel
theorem dX11_feedNumber_24 : decode cX11_feedNumber 24 = .ok (.getfield 13, 3) := by decide +kernel
theorem dX11_feedNumber_27 : decode cX11_feedNumber 27 = .ok (.iload_n 1, 1) := by decide +kernel
theorem dX11_feedNumber_28 : decode cX11_feedNumber 28 = .ok (.iload_n 2, 1) := by decide +kernel
theorem dX11_feedNumber_29 : decode cX11_feedNumber 29 = .ok (.ishr, 1) := by decide +kernel
theorem dX11_feedNumber_30 : decode cX11_feedNumber 30 = .ok (.i2b, 1) := by decide +kernel
theorem dX11_feedNumber_31 : decode cX11_feedNumber 31 = .ok (.bastore, 1) := by decide +kernel
theorem dX11_feedNumber_32 : decode cX11_feedNumber 32 = .ok (.aload_n 0, 1) := by decide +kernel
theorem dX11_feedNumber_33 : decode cX11_feedNumber 33 = .ok (.dup, 1) := by decide +kernel
theorem dX11_feedNumber_34 : decode cX11_feedNumber 34 = .ok (.getfield 13, 3) := by decide +kernel
theorem dX11_feedNumber_37 : decode cX11_feedNumber 37 = .ok (.iconst 1, 1) := by decide +kernel
theorem dX11_feedNumber_38 : decode cX11_feedNumber 38 = .ok (.iadd, 1) := by decide +kernel
theorem dX11_feedNumber_39 : decode cX11_feedNumber 39 = .ok (.putfield 13, 3) := by decide +kernel
theorem dX11_feedNumber_42 : decode cX11_feedNumber 42 = .ok (.iinc 2 (-8), 3) := by decide +kernel
theorem dX11_feedNumber_45 : decode cX11_feedNumber 45 = .ok (.goto (-42), 3) := by decide +kernel
theorem dX11_feedNumber_48 : decode cX11_feedNumber 48 = .ok (.return_, 1) := by decide +kernel
theorem dX11_isFunction_0 : decode cX11_isFunction 0 = .ok (.aload_n 0, 1) := by decide +kernel
theorem dX11_isFunction_1 : decode cX11_isFunction 1 = .ok (.getfield 36, 3) := by decide +kernel
theorem dX11_isFunction_4 : decode cX11_isFunction 4 = .ok (.ifCond .eq 25, 3) := by decide +kernel
theorem dX11_isFunction_29 : decode cX11_isFunction 29 = .ok (.iconst 0, 1) := by decide +kernel
theorem dX11_isFunction_30 : decode cX11_isFunction 30 = .ok (.ireturn, 1) := by decide +kernel
theorem dX11_at_0 : decode cX11_at 0 = .ok (.iload_n 1, 1) := by decide +kernel
theorem dX11_at_1 : decode cX11_at 1 = .ok (.ifCond .lt 15, 3) := by decide +kernel
theorem dX11_at_4 : decode cX11_at 4 = .ok (.iload_n 1, 1) := by decide +kernel
theorem dX11_at_5 : decode cX11_at 5 = .ok (.aload_n 0, 1) := by decide +kernel
theorem dX11_at_6 : decode cX11_at 6 = .ok (.arraylength, 1) := by decide +kernel
theorem dX11_at_7 : decode cX11_at 7 = .ok (.if_icmp .ge 9, 3) := by decide +kernel
theorem dX11_at_10 : decode cX11_at 10 = .ok (.aload_n 0, 1) := by decide +kernel
theorem dX11_at_11 : decode cX11_at 11 = .ok (.iload_n 1, 1) := by decide +kernel
theorem dX11_at_12 : decode cX11_at 12 = .ok (.iaload, 1) := by decide +kernel
theorem dX11_at_13 : decode cX11_at 13 = .ok (.goto 4, 3) := by decide +kernel
theorem dX11_at_17 : decode cX11_at 17 = .ok (.ireturn, 1) := by decide +kernel
theorem dX11_put_0 : decode cX11_put 0 = .ok (.iload_n 1, 1) := by decide +kernel
theorem dX11_put_1 : decode cX11_put 1 = .ok (.ifCond .lt 13, 3) := by decide +kernel
theorem dX11_put_4 : decode cX11_put 4 = .ok (.iload_n 1, 1) := by decide +kernel
theorem dX11_put_5 : decode cX11_put 5 = .ok (.aload_n 0, 1) := by decide +kernel
theorem dX11_put_6 : decode cX11_put 6 = .ok (.arraylength, 1) := by decide +kernel
theorem dX11_put_7 : decode cX11_put 7 = .ok (.if_icmp .ge 7, 3) := by decide +kernel
theorem dX11_put_10 : decode cX11_put 10 = .ok (.aload_n 0, 1) := by decide +kernel
theorem dX11_put_11 : decode cX11_put 11 = .ok (.iload_n 1, 1) := by decide +kernel
theorem dX11_put_12 : decode cX11_put 12 = .ok (.iload_n 2, 1) := by decide +kernel
theorem dX11_put_13 : decode cX11_put 13 = .ok (.iastore, 1) := by decide +kernel
theorem dX11_put_14 : decode cX11_put 14 = .ok (.return_, 1) := by decide +kernel
theorem dX12_init_0 : decode cX12_init 0 = .ok (.aload_n 0, 1) := by decide +kernel
theorem dX12_init_1 : decode cX12_init 1 = .ok (.invokespecial 1, 3) := by decide +kernel
theorem dX12_init_4 : decode cX12_init 4 = .ok (.aload_n 0, 1) := by decide +kernel
theorem dX12_init_5 : decode cX12_init 5 = .ok (.bipush 12, 2) := by decide +kernel
theorem dX12_init_7 : decode cX12_init 7 = .ok (.anewarray 7, 3) := by decide +kernel
theorem dX12_init_10 : decode cX12_init 10 = .ok (.dup, 1) := by decide +kernel
theorem dX12_init_11 : decode cX12_init 11 = .ok (.iconst 0, 1) := by decide +kernel
theorem dX12_init_12 : decode cX12_init 12 = .ok (.ldc 9, 2) := by decide +kernel
theorem dX12_init_14 : decode cX12_init 14 = .ok (.aastore, 1) := by decide +kernel
theorem dX12_init_15 : decode cX12_init 15 = .ok (.dup, 1) := by decide +kernel
theorem dX12_init_16 : decode cX12_init 16 = .ok (.iconst 1, 1) := by decide +kernel
theorem dX12_init_17 : decode cX12_init 17 = .ok (.ldc 11, 2) := by decide +kernel
theorem dX12_init_19 : decode cX12_init 19 = .ok (.aastore, 1) := by decide +kernel
theorem dX12_init_20 : decode cX12_init 20 = .ok (.dup, 1) := by decide +kernel
theorem dX12_init_21 : decode cX12_init 21 = .ok (.iconst 2, 1) := by decide +kernel
theorem dX12_init_22 : decode cX12_init 22 = .ok (.ldc 13, 2) := by decide +kernel
theorem dX12_init_24 : decode cX12_init 24 = .ok (.aastore, 1) := by decide +kernel
theorem dX12_init_25 : decode cX12_init 25 = .ok (.dup, 1) := by decide +kernel
theorem dX12_init_26 : decode cX12_init 26 = .ok (.iconst 3, 1) := by decide +kernel
theorem dX12_init_27 : decode cX12_init 27 = .ok (.ldc 15, 2) := by decide +kernel
theorem dX12_init_29 : decode cX12_init 29 = .ok (.aastore, 1) := by decide +kernel
theorem dX12_init_30 : decode cX12_init 30 = .ok (.dup, 1) := by decide +kernel
theorem dX12_init_31 : decode cX12_init 31 = .ok (.iconst 4, 1) := by decide +kernel
theorem dX12_init_32 : decode cX12_init 32 = .ok (.ldc 17, 2) := by decide +kernel
theorem dX12_init_34 : decode cX12_init 34 = .ok (.aastore, 1) := by decide +kernel
theorem dX12_init_35 : decode cX12_init 35 = .ok (.dup, 1) := by decide +kernel
theorem dX12_init_36 : decode cX12_init 36 = .ok (.iconst 5, 1) := by decide +kernel
theorem dX12_init_37 : decode cX12_init 37 = .ok (.ldc 19, 2) := by decide +kernel
theorem dX12_init_39 : decode cX12_init 39 = .ok (.aastore, 1) := by decide +kernel
theorem dX12_init_40 : decode cX12_init 40 = .ok (.dup, 1) := by decide +kernel
theorem dX12_init_41 : decode cX12_init 41 = .ok (.bipush 6, 2) := by decide +kernel
theorem dX12_init_43 : decode cX12_init 43 = .ok (.ldc 21, 2) := by decide +kernel
theorem dX12_init_45 : decode cX12_init 45 = .ok (.aastore, 1) := by decide +kernel
theorem dX12_init_46 : decode cX12_init 46 = .ok (.dup, 1) := by decide +kernel
theorem dX12_init_47 : decode cX12_init 47 = .ok (.bipush 7, 2) := by decide +kernel
theorem dX12_init_49 : decode cX12_init 49 = .ok (.ldc 23, 2) := by decide +kernel
theorem dX12_init_51 : decode cX12_init 51 = .ok (.aastore, 1) := by decide +kernel
theorem dX12_init_52 : decode cX12_init 52 = .ok (.dup, 1) := by decide +kernel
theorem dX12_init_53 : decode cX12_init 53 = .ok (.bipush 8, 2) := by decide +kernel
theorem dX12_init_55 : decode cX12_init 55 = .ok (.ldc 25, 2) := by decide +kernel
theorem dX12_init_57 : decode cX12_init 57 = .ok (.aastore, 1) := by decide +kernel
theorem dX12_init_58 : decode cX12_init 58 = .ok (.dup, 1) := by decide +kernel
theorem dX12_init_59 : decode cX12_init 59 = .ok (.bipush 9, 2) := by decide +kernel
theorem dX12_init_61 : decode cX12_init 61 = .ok (.ldc 27, 2) := by decide +kernel
theorem dX12_init_63 : decode cX12_init 63 = .ok (.aastore, 1) := by decide +kernel
theorem dX12_init_64 : decode cX12_init 64 = .ok (.dup, 1) := by decide +kernel
theorem dX12_init_65 : decode cX12_init 65 = .ok (.bipush 10, 2) := by decide +kernel
theorem dX12_init_67 : decode cX12_init 67 = .ok (.ldc 29, 2) := by decide +kernel
theorem dX12_init_69 : decode cX12_init 69 = .ok (.aastore, 1) := by decide +kernel
theorem dX12_init_70 : decode cX12_init 70 = .ok (.dup, 1) := by decide +kernel
theorem dX12_init_71 : decode cX12_init 71 = .ok (.bipush 11, 2) := by decide +kernel
theorem dX12_init_73 : decode cX12_init 73 = .ok (.ldc 31, 2) := by decide +kernel
theorem dX12_init_75 : decode cX12_init 75 = .ok (.aastore, 1) := by decide +kernel
theorem dX12_init_76 : decode cX12_init 76 = .ok (.putfield 33, 3) := by decide +kernel
theorem dX12_init_79 : decode cX12_init 79 = .ok (.aload_n 0, 1) := by decide +kernel
theorem dX12_init_80 : decode cX12_init 80 = .ok (.sipush 3000, 3) := by decide +kernel
theorem dX12_init_83 : decode cX12_init 83 = .ok (.newarray .int, 2) := by decide +kernel
theorem dX12_init_85 : decode cX12_init 85 = .ok (.putfield 39, 3) := by decide +kernel
theorem dX12_init_88 : decode cX12_init 88 = .ok (.aload_n 0, 1) := by decide +kernel
theorem dX12_init_89 : decode cX12_init 89 = .ok (.sipush 3000, 3) := by decide +kernel
theorem dX12_init_92 : decode cX12_init 92 = .ok (.newarray .int, 2) := by decide +kernel
theorem dX12_init_94 : decode cX12_init 94 = .ok (.putfield 43, 3) := by decide +kernel
theorem dX12_init_97 : decode cX12_init 97 = .ok (.aload_n 0, 1) := by decide +kernel
theorem dX12_init_98 : decode cX12_init 98 = .ok (.sipush 3000, 3) := by decide +kernel
theorem dX12_init_101 : decode cX12_init 101 = .ok (.newarray .int, 2) := by decide +kernel
theorem dX12_init_103 : decode cX12_init 103 = .ok (.putfield 46, 3) := by decide +kernel
theorem dX12_init_106 : decode cX12_init 106 = .ok (.aload_n 0, 1) := by decide +kernel
theorem dX12_init_107 : decode cX12_init 107 = .ok (.iconst (-1), 1) := by decide +kernel
theorem dX12_init_108 : decode cX12_init 108 = .ok (.putfield 49, 3) := by decide +kernel
theorem dX12_init_111 : decode cX12_init 111 = .ok (.aload_n 0, 1) := by decide +kernel
theorem dX12_init_112 : decode cX12_init 112 = .ok (.sipush 6000, 3) := by decide +kernel
theorem dX12_init_115 : decode cX12_init 115 = .ok (.newarray .int, 2) := by decide +kernel
theorem dX12_init_117 : decode cX12_init 117 = .ok (.putfield 53, 3) := by decide +kernel
theorem dX12_init_120 : decode cX12_init 120 = .ok (.aload_n 0, 1) := by decide +kernel
theorem dX12_init_121 : decode cX12_init 121 = .ok (.sipush 6000, 3) := by decide +kernel
theorem dX12_init_124 : decode cX12_init 124 = .ok (.newarray .int, 2) := by decide +kernel
theorem dX12_init_126 : decode cX12_init 126 = .ok (.putfield 56, 3) := by decide +kernel
theorem dX12_init_129 : decode cX12_init 129 = .ok (.aload_n 0, 1) := by decide +kernel
theorem dX12_init_130 : decode cX12_init 130 = .ok (.sipush 6000, 3) := by decide +kernel
theorem dX12_init_133 : decode cX12_init 133 = .ok (.newarray .int, 2) := by decide +kernel
theorem dX12_init_135 : decode cX12_init 135 = .ok (.putfield 59, 3) := by decide +kernel
theorem dX12_init_138 : decode cX12_init 138 = .ok (.aload_n 0, 1) := by decide +kernel
theorem dX12_init_139 : decode cX12_init 139 = .ok (.sipush 6000, 3) := by decide +kernel
theorem dX12_init_142 : decode cX12_init 142 = .ok (.newarray .int, 2) := by decide +kernel
theorem dX12_init_144 : decode cX12_init 144 = .ok (.putfield 62, 3) := by decide +kernel
theorem dX12_init_147 : decode cX12_init 147 = .ok (.aload_n 0, 1) := by decide +kernel
theorem dX12_init_148 : decode cX12_init 148 = .ok (.sipush 6000, 3) := by decide +kernel
theorem dX12_init_151 : decode cX12_init 151 = .ok (.newarray .int, 2) := by decide +kernel
theorem dX12_init_153 : decode cX12_init 153 = .ok (.putfield 65, 3) := by decide +kernel
theorem dX12_init_156 : decode cX12_init 156 = .ok (.aload_n 0, 1) := by decide +kernel
theorem dX12_init_157 : decode cX12_init 157 = .ok (.sipush 6000, 3) := by decide +kernel
theorem dX12_init_160 : decode cX12_init 160 = .ok (.newarray .int, 2) := by decide +kernel
theorem dX12_init_162 : decode cX12_init 162 = .ok (.putfield 68, 3) := by decide +kernel
theorem dX12_init_165 : decode cX12_init 165 = .ok (.aload_n 0, 1) := by decide +kernel
theorem dX12_init_166 : decode cX12_init 166 = .ok (.sipush 6000, 3) := by decide +kernel
theorem dX12_init_169 : decode cX12_init 169 = .ok (.newarray .int, 2) := by decide +kernel
theorem dX12_init_171 : decode cX12_init 171 = .ok (.putfield 71, 3) := by decide +kernel
theorem dX12_init_174 : decode cX12_init 174 = .ok (.aload_n 0, 1) := by decide +kernel
theorem dX12_init_175 : decode cX12_init 175 = .ok (.sipush 6000, 3) := by decide +kernel
theorem dX12_init_178 : decode cX12_init 178 = .ok (.newarray .boolean, 2) := by decide +kernel
theorem dX12_init_180 : decode cX12_init 180 = .ok (.putfield 74, 3) := by decide +kernel
theorem dX12_init_183 : decode cX12_init 183 = .ok (.aload_n 0, 1) := by decide +kernel
theorem dX12_init_184 : decode cX12_init 184 = .ok (.bipush 100, 2) := by decide +kernel
theorem dX12_init_186 : decode cX12_init 186 = .ok (.newarray .int, 2) := by decide +kernel
theorem dX12_init_188 : decode cX12_init 188 = .ok (.putfield 78, 3) := by decide +kernel
theorem dX12_init_191 : decode cX12_init 191 = .ok (.aload_n 0, 1) := by decide +kernel
theorem dX12_init_192 : decode cX12_init 192 = .ok (.bipush 100, 2) := by decide +kernel
theorem dX12_init_194 : decode cX12_init 194 = .ok (.newarray .int, 2) := by decide +kernel
theorem dX12_init_196 : decode cX12_init 196 = .ok (.putfield 81, 3) := by decide +kernel
theorem dX12_init_199 : decode cX12_init 199 = .ok (.aload_n 0, 1) := by decide +kernel
theorem dX12_init_200 : decode cX12_init 200 = .ok (.bipush 100, 2) := by decide +kernel
theorem dX12_init_202 : decode cX12_init 202 = .ok (.newarray .int, 2) := by decide +kernel
theorem dX12_init_204 : decode cX12_init 204 = .ok (.putfield 84, 3) := by decide +kernel
theorem dX12_init_207 : decode cX12_init 207 = .ok (.aload_n 0, 1) := by decide +kernel
theorem dX12_init_208 : decode cX12_init 208 = .ok (.bipush 100, 2) := by decide +kernel
theorem dX12_init_210 : decode cX12_init 210 = .ok (.newarray .int, 2) := by decide +kernel
theorem dX12_init_212 : decode cX12_init 212 = .ok (.putfield 87, 3) := by decide +kernel
theorem dX12_init_215 : decode cX12_init 215 = .ok (.aload_n 0, 1) := by decide +kernel
theorem dX12_init_216 : decode cX12_init 216 = .ok (.bipush 40, 2) := by decide +kernel
theorem dX12_init_218 : decode cX12_init 218 = .ok (.newarray .int, 2) := by decide +kernel
theorem dX12_init_220 : decode cX12_init 220 = .ok (.putfield 90, 3) := by decide +kernel
theorem dX12_init_223 : decode cX12_init 223 = .ok (.aload_n 0, 1) := by decide +kernel
theorem dX12_init_224 : decode cX12_init 224 = .ok (.bipush 40, 2) := by decide +kernel
theorem dX12_init_226 : decode cX12_init 226 = .ok (.newarray .int, 2) := by decide +kernel
theorem dX12_init_228 : decode cX12_init 228 = .ok (.putfield 93, 3) := by decide +kernel
theorem dX12_init_231 : decode cX12_init 231 = .ok (.aload_n 0, 1) := by decide +kernel
theorem dX12_init_232 : decode cX12_init 232 = .ok (.bipush 40, 2) := by decide +kernel
theorem dX12_init_234 : decode cX12_init 234 = .ok (.newarray .int, 2) := by decide +kernel
theorem dX12_init_236 : decode cX12_init 236 = .ok (.putfield 96, 3) := by decide +kernel
theorem dX12_init_239 : decode cX12_init 239 = .ok (.aload_n 0, 1) := by decide +kernel
theorem dX12_init_240 : decode cX12_init 240 = .ok (.bipush 40, 2) := by decide +kernel
theorem dX12_init_242 : decode cX12_init 242 = .ok (.newarray .int, 2) := by decide +kernel
theorem dX12_init_244 : decode cX12_init 244 = .ok (.putfield 99, 3) := by decide +kernel
theorem dX12_init_247 : decode cX12_init 247 = .ok (.aload_n 0, 1) := by decide +kernel
theorem dX12_init_248 : decode cX12_init 248 = .ok (.bipush 40, 2) := by decide +kernel
theorem dX12_init_250 : decode cX12_init 250 = .ok (.newarray .int, 2) := by decide +kernel
theorem dX12_init_252 : decode cX12_init 252 = .ok (.putfield 102, 3) := by decide +kernel
theorem dX12_init_255 : decode cX12_init 255 = .ok (.aload_n 0, 1) := by decide +kernel
theorem dX12_init_256 : decode cX12_init 256 = .ok (.bipush 40, 2) := by decide +kernel
theorem dX12_init_258 : decode cX12_init 258 = .ok (.newarray .int, 2) := by decide +kernel
theorem dX12_init_260 : decode cX12_init 260 = .ok (.putfield 105, 3) := by decide +kernel
theorem dX12_init_263 : decode cX12_init 263 = .ok (.aload_n 0, 1) := by decide +kernel
theorem dX12_init_264 : decode cX12_init 264 = .ok (.bipush 40, 2) := by decide +kernel
theorem dX12_init_266 : decode cX12_init 266 = .ok (.newarray .int, 2) := by decide +kernel
theorem dX12_init_268 : decode cX12_init 268 = .ok (.putfield 108, 3) := by decide +kernel
theorem dX12_init_271 : decode cX12_init 271 = .ok (.aload_n 0, 1) := by decide +kernel
theorem dX12_init_272 : decode cX12_init 272 = .ok (.bipush 40, 2) := by decide +kernel
theorem dX12_init_274 : decode cX12_init 274 = .ok (.newarray .int, 2) := by decide +kernel
theorem dX12_init_276 : decode cX12_init 276 = .ok (.putfield 111, 3) := by decide +kernel
theorem dX12_init_279 : decode cX12_init 279 = .ok (.aload_n 0, 1) := by decide +kernel
theorem dX12_init_280 : decode cX12_init 280 = .ok (.sipush 4000, 3) := by decide +kernel
theorem dX12_init_283 : decode cX12_init 283 = .ok (.newarray .int, 2) := by decide +kernel
theorem dX12_init_285 : decode cX12_init 285 = .ok (.putfield 114, 3) := by decide +kernel
theorem dX12_init_288 : decode cX12_init 288 = .ok (.aload_n 0, 1) := by decide +kernel
theorem dX12_init_289 : decode cX12_init 289 = .ok (.sipush 4000, 3) := by decide +kernel
theorem dX12_init_292 : decode cX12_init 292 = .ok (.newarray .int, 2) := by decide +kernel
theorem dX12_init_294 : decode cX12_init 294 = .ok (.putfield 117, 3) := by decide +kernel
theorem dX12_init_297 : decode cX12_init 297 = .ok (.aload_n 0, 1) := by decide +kernel
theorem dX12_init_298 : decode cX12_init 298 = .ok (.sipush 4000, 3) := by decide +kernel
theorem dX12_init_301 : decode cX12_init 301 = .ok (.newarray .boolean, 2) := by decide +kernel
theorem dX12_init_303 : decode cX12_init 303 = .ok (.putfield 120, 3) := by decide +kernel
theorem dX12_init_306 : decode cX12_init 306 = .ok (.aload_n 0, 1) := by decide +kernel
theorem dX12_init_307 : decode cX12_init 307 = .ok (.sipush 4000, 3) := by decide +kernel
theorem dX12_init_310 : decode cX12_init 310 = .ok (.newarray .boolean, 2) := by decide +kernel
theorem dX12_init_312 : decode cX12_init 312 = .ok (.putfield 123, 3) := by decide +kernel
theorem dX12_init_315 : decode cX12_init 315 = .ok (.aload_n 0, 1) := by decide +kernel
theorem dX12_init_316 : decode cX12_init 316 = .ok (.bipush 40, 2) := by decide +kernel
theorem dX12_init_318 : decode cX12_init 318 = .ok (.newarray .int, 2) := by decide +kernel
theorem dX12_init_320 : decode cX12_init 320 = .ok (.putfield 126, 3) := by decide +kernel
theorem dX12_init_323 : decode cX12_init 323 = .ok (.aload_n 0, 1) := by decide +kernel
theorem dX12_init_324 : decode cX12_init 324 = .ok (.bipush 40, 2) := by decide +kernel
theorem dX12_init_326 : decode cX12_init 326 = .ok (.newarray .int, 2) := by decide +kernel
theorem dX12_init_328 : decode cX12_init 328 = .ok (.putfield 129, 3) := by decide +kernel
theorem dX12_init_331 : decode cX12_init 331 = .ok (.aload_n 0, 1) := by decide +kernel
theorem dX12_init_332 : decode cX12_init 332 = .ok (.sipush 9000, 3) := by decide +kernel
theorem dX12_init_335 : decode cX12_init 335 = .ok (.newarray .int, 2) := by decide +kernel
theorem dX12_init_337 : decode cX12_init 337 = .ok (.putfield 132, 3) := by decide +kernel
theorem dX12_init_340 : decode cX12_init 340 = .ok (.aload_n 0, 1) := by decide +kernel
theorem dX12_init_341 : decode cX12_init 341 = .ok (.sipush 9000, 3) := by decide +kernel
theorem dX12_init_344 : decode cX12_init 344 = .ok (.newarray .int, 2) := by decide +kernel
theorem dX12_init_346 : decode cX12_init 346 = .ok (.putfield 135, 3) := by decide +kernel
theorem dX12_init_349 : decode cX12_init 349 = .ok (.aload_n 0, 1) := by decide +kernel
theorem dX12_init_350 : decode cX12_init 350 = .ok (.sipush 9000, 3) := by decide +kernel
theorem dX12_init_353 : decode cX12_init 353 = .ok (.newarray .int, 2) := by decide +kernel
theorem dX12_init_355 : decode cX12_init 355 = .ok (.putfield 138, 3) := by decide +kernel
theorem dX12_init_358 : decode cX12_init 358 = .ok (.aload_n 0, 1) := by decide +kernel
theorem dX12_init_359 : decode cX12_init 359 = .ok (.sipush 9000, 3) := by decide +kernel
theorem dX12_init_362 : decode cX12_init 362 = .ok (.newarray .long, 2) := by decide +kernel
theorem dX12_init_364 : decode cX12_init 364 = .ok (.putfield 141, 3) := by decide +kernel
theorem dX12_init_367 : decode cX12_init 367 = .ok (.aload_n 0, 1) := by decide +kernel
theorem dX12_init_368 : decode cX12_init 368 = .ok (.bipush 102, 2) := by decide +kernel
theorem dX12_init_370 : decode cX12_init 370 = .ok (.newarray .int, 2) := by decide +kernel
theorem dX12_init_372 : decode cX12_init 372 = .ok (.putfield 145, 3) := by decide +kernel
theorem dX12_init_375 : decode cX12_init 375 = .ok (.aload_n 0, 1) := by decide +kernel
theorem dX12_init_376 : decode cX12_init 376 = .ok (.iconst (-1), 1) := by decide +kernel
theorem dX12_init_377 : decode cX12_init 377 = .ok (.putfield 148, 3) := by decide +kernel
theorem dX12_init_380 : decode cX12_init 380 = .ok (.aload_n 0, 1) := by decide +kernel
theorem dX12_init_381 : decode cX12_init 381 = .ok (.sipush 4200, 3) := by decide +kernel
theorem dX12_init_384 : decode cX12_init 384 = .ok (.newarray .int, 2) := by decide +kernel
theorem dX12_init_386 : decode cX12_init 386 = .ok (.putfield 151, 3) := by decide +kernel
theorem dX12_init_389 : decode cX12_init 389 = .ok (.aload_n 0, 1) := by decide +kernel
theorem dX12_init_390 : decode cX12_init 390 = .ok (.sipush 4200, 3) := by decide +kernel
theorem dX12_init_393 : decode cX12_init 393 = .ok (.newarray .int, 2) := by decide +kernel
theorem dX12_init_395 : decode cX12_init 395 = .ok (.putfield 154, 3) := by decide +kernel
theorem dX12_init_398 : decode cX12_init 398 = .ok (.aload_n 0, 1) := by decide +kernel
theorem dX12_init_399 : decode cX12_init 399 = .ok (.sipush 2000, 3) := by decide +kernel
theorem dX12_init_402 : decode cX12_init 402 = .ok (.newarray .int, 2) := by decide +kernel
theorem dX12_init_404 : decode cX12_init 404 = .ok (.putfield 157, 3) := by decide +kernel
theorem dX12_init_407 : decode cX12_init 407 = .ok (.aload_n 0, 1) := by decide +kernel
theorem dX12_init_408 : decode cX12_init 408 = .ok (.sipush 24000, 3) := by decide +kernel
theorem dX12_init_411 : decode cX12_init 411 = .ok (.newarray .int, 2) := by decide +kernel
theorem dX12_init_413 : decode cX12_init 413 = .ok (.putfield 160, 3) := by decide +kernel
theorem dX12_init_416 : decode cX12_init 416 = .ok (.aload_n 0, 1) := by decide +kernel
theorem dX12_init_417 : decode cX12_init 417 = .ok (.sipush 24000, 3) := by decide +kernel
theorem dX12_init_420 : decode cX12_init 420 = .ok (.newarray .int, 2) := by decide +kernel
theorem dX12_init_422 : decode cX12_init 422 = .ok (.putfield 163, 3) := by decide +kernel
theorem dX12_init_425 : decode cX12_init 425 = .ok (.aload_n 0, 1) := by decide +kernel
theorem dX12_init_426 : decode cX12_init 426 = .ok (.bipush 42, 2) := by decide +kernel
theorem dX12_init_428 : decode cX12_init 428 = .ok (.newarray .int, 2) := by decide +kernel
theorem dX12_init_430 : decode cX12_init 430 = .ok (.putfield 166, 3) := by decide +kernel
theorem dX12_init_433 : decode cX12_init 433 = .ok (.aload_n 0, 1) := by decide +kernel
theorem dX12_init_434 : decode cX12_init 434 = .ok (.sipush 20000, 3) := by decide +kernel
theorem dX12_init_437 : decode cX12_init 437 = .ok (.newarray .int, 2) := by decide +kernel
theorem dX12_init_439 : decode cX12_init 439 = .ok (.putfield 169, 3) := by decide +kernel
theorem dX12_init_442 : decode cX12_init 442 = .ok (.aload_n 0, 1) := by decide +kernel
theorem dX12_init_443 : decode cX12_init 443 = .ok (.bipush 9, 2) := by decide +kernel
theorem dX12_init_445 : decode cX12_init 445 = .ok (.newarray .int, 2) := by decide +kernel
theorem dX12_init_447 : decode cX12_init 447 = .ok (.putfield 172, 3) := by decide +kernel
theorem dX12_init_450 : decode cX12_init 450 = .ok (.return_, 1) := by decide +kernel
theorem dX12_thrown_0 : decode cX12_thrown 0 = .ok (.aload_n 0, 1) := by decide +kernel
theorem dX12_thrown_1 : decode cX12_thrown 1 = .ok (.getfield 175, 3) := by decide +kernel
theorem dX12_thrown_4 : decode cX12_thrown 4 = .ok (.ireturn, 1) := by decide +kernel
theorem dX12_fail_0 : decode cX12_fail 0 = .ok (.aload_n 0, 1) := by decide +kernel
theorem dX12_fail_1 : decode cX12_fail 1 = .ok (.iconst 1, 1) := by decide +kernel
theorem dX12_fail_2 : decode cX12_fail 2 = .ok (.putfield 175, 3) := by decide +kernel
theorem dX12_fail_5 : decode cX12_fail 5 = .ok (.iconst 0, 1) := by decide +kernel
theorem dX12_fail_6 : decode cX12_fail 6 = .ok (.ireturn, 1) := by decide +kernel
theorem dX12_wrong_0 : decode cX12_wrong 0 = .ok (.aload_n 0, 1) := by decide +kernel
theorem dX12_wrong_1 : decode cX12_wrong 1 = .ok (.getfield 178, 3) := by decide +kernel
theorem dX12_wrong_4 : decode cX12_wrong 4 = .ok (.ifCond .eq 4, 3) := by decide +kernel
theorem dX12_wrong_8 : decode cX12_wrong 8 = .ok (.aload_n 0, 1) := by decide +kernel
theorem dX12_wrong_9 : decode cX12_wrong 9 = .ok (.iload_n 1, 1) := by decide +kernel
theorem dX12_wrong_10 : decode cX12_wrong 10 = .ok (.putfield 178, 3) := by decide +kernel
theorem dX12_wrong_13 : decode cX12_wrong 13 = .ok (.aload_n 0, 1) := by decide +kernel
theorem dX12_wrong_14 : decode cX12_wrong 14 = .ok (.iload_n 2, 1) := by decide +kernel
theorem dX12_wrong_15 : decode cX12_wrong 15 = .ok (.putfield 181, 3) := by decide +kernel
theorem dX12_wrong_18 : decode cX12_wrong 18 = .ok (.return_, 1) := by decide +kernel
theorem dX12_byteAt_0 : decode cX12_byteAt 0 = .ok (.iload_n 1, 1) := by decide +kernel
theorem dX12_byteAt_1 : decode cX12_byteAt 1 = .ok (.aload_n 0, 1) := by decide +kernel
theorem dX12_byteAt_2 : decode cX12_byteAt 2 = .ok (.getfield 184, 3) := by decide +kernel
theorem dX12_byteAt_5 : decode cX12_byteAt 5 = .ok (.if_icmp .ge 12, 3) := by decide +kernel
theorem dX12_byteAt_17 : decode cX12_byteAt 17 = .ok (.iconst (-1), 1) := by decide +kernel
theorem dX12_byteAt_18 : decode cX12_byteAt 18 = .ok (.ireturn, 1) := by decide +kernel
theorem dX12_next_0 : decode cX12_next 0 = .ok (.aload_n 0, 1) := by decide +kernel
theorem dX12_next_1 : decode cX12_next 1 = .ok (.aload_n 0, 1) := by decide +kernel
theorem dX12_next_2 : decode cX12_next 2 = .ok (.getfield 187, 3) := by decide +kernel
theorem dX12_next_5 : decode cX12_next 5 = .ok (.invokevirtual 190, 3) := by decide +kernel
theorem dX12_next_8 : decode cX12_next 8 = .ok (.bipush 32, 2) := by decide +kernel
theorem dX12_next_10 : decode cX12_next 10 = .ok (.if_icmp .eq 16, 3) := by decide +kernel
theorem dX12_next_13 : decode cX12_next 13 = .ok (.aload_n 0, 1) := by decide +kernel
theorem dX12_next_14 : decode cX12_next 14 = .ok (.aload_n 0, 1) := by decide +kernel
theorem dX12_next_15 : decode cX12_next 15 = .ok (.getfield 187, 3) := by decide +kernel
theorem dX12_next_18 : decode cX12_next 18 = .ok (.invokevirtual 190, 3) := by decide +kernel
theorem dX12_next_21 : decode cX12_next 21 = .ok (.bipush 10, 2) := by decide +kernel
theorem dX12_next_23 : decode cX12_next 23 = .ok (.if_icmp .ne 16, 3) := by decide +kernel
theorem dX12_next_39 : decode cX12_next 39 = .ok (.aload_n 0, 1) := by decide +kernel
theorem dX12_next_40 : decode cX12_next 40 = .ok (.aload_n 0, 1) := by decide +kernel
theorem dX12_next_41 : decode cX12_next 41 = .ok (.getfield 187, 3) := by decide +kernel
theorem dX12_next_44 : decode cX12_next 44 = .ok (.putfield 194, 3) := by decide +kernel
theorem dX12_next_47 : decode cX12_next 47 = .ok (.aload_n 0, 1) := by decide +kernel
theorem dX12_next_48 : decode cX12_next 48 = .ok (.iconst (-1), 1) := by decide +kernel
theorem dX12_next_49 : decode cX12_next 49 = .ok (.putfield 197, 3) := by decide +kernel
theorem dX12_next_52 : decode cX12_next 52 = .ok (.aload_n 0, 1) := by decide +kernel
theorem dX12_next_53 : decode cX12_next 53 = .ok (.iconst 0, 1) := by decide +kernel
theorem dX12_next_54 : decode cX12_next 54 = .ok (.putfield 200, 3) := by decide +kernel
theorem dX12_next_57 : decode cX12_next 57 = .ok (.aload_n 0, 1) := by decide +kernel
theorem dX12_next_58 : decode cX12_next 58 = .ok (.aload_n 0, 1) := by decide +kernel
theorem dX12_next_59 : decode cX12_next 59 = .ok (.getfield 187, 3) := by decide +kernel
theorem dX12_next_62 : decode cX12_next 62 = .ok (.invokevirtual 190, 3) := by decide +kernel
theorem dX12_next_65 : decode cX12_next 65 = .ok (.istore_n 1, 1) := by decide +kernel
theorem dX12_next_66 : decode cX12_next 66 = .ok (.iload_n 1, 1) := by decide +kernel
theorem dX12_next_67 : decode cX12_next 67 = .ok (.iconst (-1), 1) := by decide +kernel
theorem dX12_next_68 : decode cX12_next 68 = .ok (.if_icmp .ne 11, 3) := by decide +kernel
theorem dX12_next_71 : decode cX12_next 71 = .ok (.aload_n 0, 1) := by decide +kernel
theorem dX12_next_72 : decode cX12_next 72 = .ok (.iconst 0, 1) := by decide +kernel
theorem dX12_next_73 : decode cX12_next 73 = .ok (.putfield 203, 3) := by decide +kernel
theorem dX12_next_76 : decode cX12_next 76 = .ok (.goto 193, 3) := by decide +kernel
theorem dX12_next_269 : decode cX12_next 269 = .ok (.aload_n 0, 1) := by decide +kernel
theorem dX12_next_270 : decode cX12_next 270 = .ok (.aload_n 0, 1) := by decide +kernel
theorem dX12_next_271 : decode cX12_next 271 = .ok (.getfield 187, 3) := by decide +kernel
theorem dX12_next_274 : decode cX12_next 274 = .ok (.putfield 219, 3) := by decide +kernel
theorem dX12_next_277 : decode cX12_next 277 = .ok (.return_, 1) := by decide +kernel
theorem dX12_isSign_0 : decode cX12_isSign 0 = .ok (.aload_n 0, 1) := by decide +kernel
theorem dX12_isSign_1 : decode cX12_isSign 1 = .ok (.getfield 203, 3) := by decide +kernel
theorem dX12_isSign_4 : decode cX12_isSign 4 = .ok (.iconst 4, 1) := by decide +kernel
theorem dX12_isSign_5 : decode cX12_isSign 5 = .ok (.if_icmp .ne 15, 3) := by decide +kernel
theorem dX12_isSign_20 : decode cX12_isSign 20 = .ok (.iconst 0, 1) := by decide +kernel
theorem dX12_isSign_21 : decode cX12_isSign 21 = .ok (.ireturn, 1) := by decide +kernel
theorem dX12_is_0 : decode cX12_is 0 = .ok (.aload_n 0, 1) := by decide +kernel
theorem dX12_is_1 : decode cX12_is 1 = .ok (.getfield 203, 3) := by decide +kernel
theorem dX12_is_4 : decode cX12_is 4 = .ok (.iconst 2, 1) := by decide +kernel
theorem dX12_is_5 : decode cX12_is 5 = .ok (.if_icmp .ne 15, 3) := by decide +kernel
theorem dX12_is_20 : decode cX12_is 20 = .ok (.iconst 0, 1) := by decide +kernel
theorem dX12_is_21 : decode cX12_is 21 = .ok (.ireturn, 1) := by decide +kernel
theorem dX12_cant_0 : decode cX12_cant 0 = .ok (.aload_n 0, 1) := by decide +kernel
theorem dX12_cant_1 : decode cX12_cant 1 = .ok (.iconst 1, 1) := by decide +kernel
theorem dX12_cant_2 : decode cX12_cant 2 = .ok (.aload_n 0, 1) := by decide +kernel
theorem dX12_cant_3 : decode cX12_cant 3 = .ok (.getfield 194, 3) := by decide +kernel
theorem dX12_cant_6 : decode cX12_cant 6 = .ok (.invokevirtual 230, 3) := by decide +kernel
theorem dX12_cant_9 : decode cX12_cant 9 = .ok (.return_, 1) := by decide +kernel
theorem dX12_beginsAtom_0 : decode cX12_beginsAtom 0 = .ok (.aload_n 0, 1) := by decide +kernel
theorem dX12_beginsAtom_1 : decode cX12_beginsAtom 1 = .ok (.getfield 203, 3) := by decide +kernel
theorem dX12_beginsAtom_4 : decode cX12_beginsAtom 4 = .ok (.iconst 3, 1) := by decide +kernel
theorem dX12_beginsAtom_5 : decode cX12_beginsAtom 5 = .ok (.if_icmp .eq 56, 3) := by decide +kernel
theorem dX12_beginsAtom_8 : decode cX12_beginsAtom 8 = .ok (.aload_n 0, 1) := by decide +kernel
theorem dX12_beginsAtom_9 : decode cX12_beginsAtom 9 = .ok (.getfield 203, 3) := by decide +kernel
theorem dX12_beginsAtom_12 : decode cX12_beginsAtom 12 = .ok (.iconst 1, 1) := by decide +kernel
theorem dX12_beginsAtom_13 : decode cX12_beginsAtom 13 = .ok (.if_icmp .eq 48, 3) := by decide +kernel
theorem dX12_beginsAtom_16 : decode cX12_beginsAtom 16 = .ok (.aload_n 0, 1) := by decide +kernel
theorem dX12_beginsAtom_17 : decode cX12_beginsAtom 17 = .ok (.bipush 40, 2) := by decide +kernel
theorem dX12_beginsAtom_19 : decode cX12_beginsAtom 19 = .ok (.invokevirtual 234, 3) := by decide +kernel
theorem dX12_beginsAtom_22 : decode cX12_beginsAtom 22 = .ok (.ifCond .ne 39, 3) := by decide +kernel
theorem dX12_beginsAtom_25 : decode cX12_beginsAtom 25 = .ok (.aload_n 0, 1) := by decide +kernel
theorem dX12_beginsAtom_26 : decode cX12_beginsAtom 26 = .ok (.bipush 6, 2) := by decide +kernel
theorem dX12_beginsAtom_28 : decode cX12_beginsAtom 28 = .ok (.invokevirtual 243, 3) := by decide +kernel
theorem dX12_beginsAtom_31 : decode cX12_beginsAtom 31 = .ok (.ifCond .ne 30, 3) := by decide +kernel
theorem dX12_beginsAtom_34 : decode cX12_beginsAtom 34 = .ok (.aload_n 0, 1) := by decide +kernel
theorem dX12_beginsAtom_35 : decode cX12_beginsAtom 35 = .ok (.bipush 7, 2) := by decide +kernel
theorem dX12_beginsAtom_37 : decode cX12_beginsAtom 37 = .ok (.invokevirtual 243, 3) := by decide +kernel
theorem dX12_beginsAtom_40 : decode cX12_beginsAtom 40 = .ok (.ifCond .ne 21, 3) := by decide +kernel
theorem dX12_beginsAtom_43 : decode cX12_beginsAtom 43 = .ok (.aload_n 0, 1) := by decide +kernel
theorem dX12_beginsAtom_44 : decode cX12_beginsAtom 44 = .ok (.bipush 8, 2) := by decide +kernel
theorem dX12_beginsAtom_46 : decode cX12_beginsAtom 46 = .ok (.invokevirtual 243, 3) := by decide +kernel
theorem dX12_beginsAtom_49 : decode cX12_beginsAtom 49 = .ok (.ifCond .ne 12, 3) := by decide +kernel
theorem dX12_beginsAtom_52 : decode cX12_beginsAtom 52 = .ok (.aload_n 0, 1) := by decide +kernel
theorem dX12_beginsAtom_53 : decode cX12_beginsAtom 53 = .ok (.bipush 9, 2) := by decide +kernel
theorem dX12_beginsAtom_55 : decode cX12_beginsAtom 55 = .ok (.invokevirtual 243, 3) := by decide +kernel
theorem dX12_beginsAtom_58 : decode cX12_beginsAtom 58 = .ok (.ifCond .eq 7, 3) := by decide +kernel
theorem dX12_beginsAtom_65 : decode cX12_beginsAtom 65 = .ok (.iconst 0, 1) := by decide +kernel
theorem dX12_beginsAtom_66 : decode cX12_beginsAtom 66 = .ok (.ireturn, 1) := by decide +kernel
theorem dX12_beginsExpression_0 : decode cX12_beginsExpression 0 = .ok (.aload_n 0, 1) := by decide +kernel
theorem dX12_beginsExpression_1 : decode cX12_beginsExpression 1 = .ok (.invokevirtual 252, 3) := by decide +kernel
theorem dX12_beginsExpression_4 : decode cX12_beginsExpression 4 = .ok (.ifCond .ne 36, 3) := by decide +kernel
theorem dX12_beginsExpression_7 : decode cX12_beginsExpression 7 = .ok (.aload_n 0, 1) := by decide +kernel
theorem dX12_beginsExpression_8 : decode cX12_beginsExpression 8 = .ok (.bipush 92, 2) := by decide +kernel
theorem dX12_beginsExpression_10 : decode cX12_beginsExpression 10 = .ok (.invokevirtual 234, 3) := by decide +kernel
theorem dX12_beginsExpression_13 : decode cX12_beginsExpression 13 = .ok (.ifCond .ne 27, 3) := by decide +kernel
theorem dX12_beginsExpression_16 : decode cX12_beginsExpression 16 = .ok (.aload_n 0, 1) := by decide +kernel
theorem dX12_beginsExpression_17 : decode cX12_beginsExpression 17 = .ok (.iconst 0, 1) := by decide +kernel
theorem dX12_beginsExpression_18 : decode cX12_beginsExpression 18 = .ok (.invokevirtual 243, 3) := by decide +kernel
theorem dX12_beginsExpression_21 : decode cX12_beginsExpression 21 = .ok (.ifCond .ne 19, 3) := by decide +kernel
theorem dX12_beginsExpression_24 : decode cX12_beginsExpression 24 = .ok (.aload_n 0, 1) := by decide +kernel
theorem dX12_beginsExpression_25 : decode cX12_beginsExpression 25 = .ok (.iconst 1, 1) := by decide +kernel
theorem dX12_beginsExpression_26 : decode cX12_beginsExpression 26 = .ok (.invokevirtual 243, 3) := by decide +kernel
theorem dX12_beginsExpression_29 : decode cX12_beginsExpression 29 = .ok (.ifCond .ne 11, 3) := by decide +kernel
theorem dX12_beginsExpression_32 : decode cX12_beginsExpression 32 = .ok (.aload_n 0, 1) := by decide +kernel
theorem dX12_beginsExpression_33 : decode cX12_beginsExpression 33 = .ok (.iconst 3, 1) := by decide +kernel
theorem dX12_beginsExpression_34 : decode cX12_beginsExpression 34 = .ok (.invokevirtual 243, 3) := by decide +kernel
theorem dX12_beginsExpression_37 : decode cX12_beginsExpression 37 = .ok (.ifCond .eq 7, 3) := by decide +kernel
theorem dX12_beginsExpression_44 : decode cX12_beginsExpression 44 = .ok (.iconst 0, 1) := by decide +kernel
theorem dX12_beginsExpression_45 : decode cX12_beginsExpression 45 = .ok (.ireturn, 1) := by decide +kernel
theorem dX12_readExpression_0 : decode cX12_readExpression 0 = .ok (.aload_n 0, 1) := by decide +kernel
theorem dX12_readExpression_1 : decode cX12_readExpression 1 = .ok (.invokevirtual 256, 3) := by decide +kernel
theorem dX12_readExpression_4 : decode cX12_readExpression 4 = .ok (.ifCond .ne 10, 3) := by decide +kernel
theorem dX12_readExpression_7 : decode cX12_readExpression 7 = .ok (.aload_n 0, 1) := by decide +kernel
theorem dX12_readExpression_8 : decode cX12_readExpression 8 = .ok (.invokevirtual 240, 3) := by decide +kernel
theorem dX12_readExpression_11 : decode cX12_readExpression 11 = .ok (.goto 18, 3) := by decide +kernel
theorem dX12_readExpression_29 : decode cX12_readExpression 29 = .ok (.aload_n 0, 1) := by decide +kernel
theorem dX12_readExpression_30 : decode cX12_readExpression 30 = .ok (.getfield 178, 3) := by decide +kernel
theorem dX12_readExpression_33 : decode cX12_readExpression 33 = .ok (.ifCond .eq 5, 3) := by decide +kernel
theorem dX12_readExpression_36 : decode cX12_readExpression 36 = .ok (.iconst (-1), 1) := by decide +kernel
theorem dX12_readExpression_37 : decode cX12_readExpression 37 = .ok (.ireturn, 1) := by decide +kernel
theorem dX12_analyse_0 : decode cX12_analyse 0 = .ok (.aload_n 0, 1) := by decide +kernel
theorem dX12_analyse_1 : decode cX12_analyse 1 = .ok (.iconst 0, 1) := by decide +kernel
theorem dX12_analyse_2 : decode cX12_analyse 2 = .ok (.putfield 246, 3) := by decide +kernel
theorem dX12_analyse_5 : decode cX12_analyse 5 = .ok (.aload_n 0, 1) := by decide +kernel
theorem dX12_analyse_6 : decode cX12_analyse 6 = .ok (.iconst 0, 1) := by decide +kernel
theorem dX12_analyse_7 : decode cX12_analyse 7 = .ok (.putfield 249, 3) := by decide +kernel
theorem dX12_analyse_10 : decode cX12_analyse 10 = .ok (.aload_n 0, 1) := by decide +kernel
theorem dX12_analyse_11 : decode cX12_analyse 11 = .ok (.iconst 0, 1) := by decide +kernel
theorem dX12_analyse_12 : decode cX12_analyse 12 = .ok (.putfield 291, 3) := by decide +kernel
theorem dX12_analyse_15 : decode cX12_analyse 15 = .ok (.aload_n 0, 1) := by decide +kernel
theorem dX12_analyse_16 : decode cX12_analyse 16 = .ok (.iconst 2, 1) := by decide +kernel
theorem dX12_analyse_17 : decode cX12_analyse 17 = .ok (.putfield 316, 3) := by decide +kernel
theorem dX12_analyse_20 : decode cX12_analyse 20 = .ok (.aload_n 0, 1) := by decide +kernel
theorem dX12_analyse_21 : decode cX12_analyse 21 = .ok (.getfield 141, 3) := by decide +kernel
theorem dX12_analyse_24 : decode cX12_analyse 24 = .ok (.iconst 0, 1) := by decide +kernel
theorem dX12_analyse_25 : decode cX12_analyse 25 = .ok (.lconst 1, 1) := by decide +kernel
theorem dX12_analyse_26 : decode cX12_analyse 26 = .ok (.lastore, 1) := by decide +kernel
theorem dX12_analyse_27 : decode cX12_analyse 27 = .ok (.aload_n 0, 1) := by decide +kernel
theorem dX12_analyse_28 : decode cX12_analyse 28 = .ok (.getfield 141, 3) := by decide +kernel
theorem dX12_analyse_31 : decode cX12_analyse 31 = .ok (.iconst 1, 1) := by decide +kernel
theorem dX12_analyse_32 : decode cX12_analyse 32 = .ok (.lconst 1, 1) := by decide +kernel
theorem dX12_analyse_33 : decode cX12_analyse 33 = .ok (.lastore, 1) := by decide +kernel
theorem dX12_analyse_34 : decode cX12_analyse 34 = .ok (.aload_n 0, 1) := by decide +kernel
theorem dX12_analyse_35 : decode cX12_analyse 35 = .ok (.iconst 0, 1) := by decide +kernel
theorem dX12_analyse_36 : decode cX12_analyse 36 = .ok (.putfield 327, 3) := by decide +kernel
theorem dX12_analyse_39 : decode cX12_analyse 39 = .ok (.aload_n 0, 1) := by decide +kernel
theorem dX12_analyse_40 : decode cX12_analyse 40 = .ok (.iconst 0, 1) := by decide +kernel
theorem dX12_analyse_41 : decode cX12_analyse 41 = .ok (.putfield 380, 3) := by decide +kernel
theorem dX12_analyse_44 : decode cX12_analyse 44 = .ok (.aload_n 0, 1) := by decide +kernel
theorem dX12_analyse_45 : decode cX12_analyse 45 = .ok (.iconst 0, 1) := by decide +kernel
theorem dX12_analyse_46 : decode cX12_analyse 46 = .ok (.putfield 178, 3) := by decide +kernel
theorem dX12_analyse_49 : decode cX12_analyse 49 = .ok (.aload_n 0, 1) := by decide +kernel
theorem dX12_analyse_50 : decode cX12_analyse 50 = .ok (.iconst 0, 1) := by decide +kernel
theorem dX12_analyse_51 : decode cX12_analyse 51 = .ok (.putfield 187, 3) := by decide +kernel
theorem dX12_analyse_54 : decode cX12_analyse 54 = .ok (.aload_n 0, 1) := by decide +kernel
theorem dX12_analyse_55 : decode cX12_analyse 55 = .ok (.invokevirtual 237, 3) := by decide +kernel
theorem dX12_analyse_58 : decode cX12_analyse 58 = .ok (.aload_n 0, 1) := by decide +kernel
theorem dX12_analyse_59 : decode cX12_analyse 59 = .ok (.aload_n 0, 1) := by decide +kernel
theorem dX12_analyse_60 : decode cX12_analyse 60 = .ok (.iconst 0, 1) := by decide +kernel
theorem dX12_analyse_61 : decode cX12_analyse 61 = .ok (.invokevirtual 285, 3) := by decide +kernel
theorem dX12_analyse_64 : decode cX12_analyse 64 = .ok (.putfield 386, 3) := by decide +kernel
theorem dX12_analyse_67 : decode cX12_analyse 67 = .ok (.aload_n 0, 1) := by decide +kernel
theorem dX12_analyse_68 : decode cX12_analyse 68 = .ok (.getfield 178, 3) := by decide +kernel
theorem dX12_analyse_71 : decode cX12_analyse 71 = .ok (.ifCond .ne 14, 3) := by decide +kernel
theorem dX12_analyse_85 : decode cX12_analyse 85 = .ok (.aload_n 0, 1) := by decide +kernel
theorem dX12_analyse_86 : decode cX12_analyse 86 = .ok (.getfield 178, 3) := by decide +kernel
theorem dX12_analyse_89 : decode cX12_analyse 89 = .ok (.ifCond .ne 12, 3) := by decide +kernel
theorem dX12_analyse_101 : decode cX12_analyse 101 = .ok (.aload_n 0, 1) := by decide +kernel
theorem dX12_analyse_102 : decode cX12_analyse 102 = .ok (.getfield 178, 3) := by decide +kernel
theorem dX12_analyse_105 : decode cX12_analyse 105 = .ok (.ifCond .ne 62, 3) := by decide +kernel
theorem dX12_analyse_167 : decode cX12_analyse 167 = .ok (.aload_n 0, 1) := by decide +kernel
theorem dX12_analyse_168 : decode cX12_analyse 168 = .ok (.getfield 178, 3) := by decide +kernel
theorem dX12_analyse_171 : decode cX12_analyse 171 = .ok (.ifCond .ne 7, 3) := by decide +kernel
theorem dX12_analyse_178 : decode cX12_analyse 178 = .ok (.return_, 1) := by decide +kernel
theorem dX12_program_0 : decode cX12_program 0 = .ok (.aload_n 0, 1) := by decide +kernel
theorem dX12_program_1 : decode cX12_program 1 = .ok (.iconst 0, 1) := by decide +kernel
theorem dX12_program_2 : decode cX12_program 2 = .ok (.putfield 175, 3) := by decide +kernel
theorem dX12_program_5 : decode cX12_program 5 = .ok (.iload_n 1, 1) := by decide +kernel
theorem dX12_program_6 : decode cX12_program 6 = .ok (.ifCond .lt 11, 3) := by decide +kernel
theorem dX12_program_9 : decode cX12_program 9 = .ok (.iload_n 1, 1) := by decide +kernel
theorem dX12_program_10 : decode cX12_program 10 = .ok (.aload_n 0, 1) := by decide +kernel
theorem dX12_program_11 : decode cX12_program 11 = .ok (.getfield 395, 3) := by decide +kernel
theorem dX12_program_14 : decode cX12_program 14 = .ok (.if_icmp .le 8, 3) := by decide +kernel
theorem dX12_program_17 : decode cX12_program 17 = .ok (.aload_n 0, 1) := by decide +kernel
theorem dX12_program_18 : decode cX12_program 18 = .ok (.invokevirtual 398, 3) := by decide +kernel
theorem dX12_program_21 : decode cX12_program 21 = .ok (.ireturn, 1) := by decide +kernel
theorem dX12_program_22 : decode cX12_program 22 = .ok (.iconst 0, 1) := by decide +kernel
theorem dX12_program_23 : decode cX12_program 23 = .ok (.istore_n 2, 1) := by decide +kernel
theorem dX12_program_24 : decode cX12_program 24 = .ok (.iload_n 2, 1) := by decide +kernel
theorem dX12_program_25 : decode cX12_program 25 = .ok (.iload_n 1, 1) := by decide +kernel
theorem dX12_program_26 : decode cX12_program 26 = .ok (.if_icmp .ge 21, 3) := by decide +kernel
theorem dX12_program_47 : decode cX12_program 47 = .ok (.aload_n 0, 1) := by decide +kernel
theorem dX12_program_48 : decode cX12_program 48 = .ok (.iload_n 1, 1) := by decide +kernel
theorem dX12_program_49 : decode cX12_program 49 = .ok (.putfield 184, 3) := by decide +kernel
theorem dX12_program_52 : decode cX12_program 52 = .ok (.aload_n 0, 1) := by decide +kernel
theorem dX12_program_53 : decode cX12_program 53 = .ok (.iconst 0, 1) := by decide +kernel
theorem dX12_program_54 : decode cX12_program 54 = .ok (.putfield 395, 3) := by decide +kernel
theorem dX12_program_57 : decode cX12_program 57 = .ok (.aload_n 0, 1) := by decide +kernel
theorem dX12_program_58 : decode cX12_program 58 = .ok (.invokevirtual 401, 3) := by decide +kernel
theorem dX12_program_61 : decode cX12_program 61 = .ok (.aload_n 0, 1) := by decide +kernel
theorem dX12_program_62 : decode cX12_program 62 = .ok (.aload_n 0, 1) := by decide +kernel
theorem dX12_program_63 : decode cX12_program 63 = .ok (.getfield 178, 3) := by decide +kernel
theorem dX12_program_66 : decode cX12_program 66 = .ok (.putfield 404, 3) := by decide +kernel
theorem dX12_program_69 : decode cX12_program 69 = .ok (.aload_n 0, 1) := by decide +kernel
theorem dX12_program_70 : decode cX12_program 70 = .ok (.aload_n 0, 1) := by decide +kernel
theorem dX12_program_71 : decode cX12_program 71 = .ok (.getfield 178, 3) := by decide +kernel
theorem dX12_program_74 : decode cX12_program 74 = .ok (.ifCond .ne 7, 3) := by decide +kernel
theorem dX12_program_81 : decode cX12_program 81 = .ok (.aload_n 0, 1) := by decide +kernel
theorem dX12_program_82 : decode cX12_program 82 = .ok (.getfield 181, 3) := by decide +kernel
theorem dX12_program_85 : decode cX12_program 85 = .ok (.putfield 49, 3) := by decide +kernel
theorem dX12_program_88 : decode cX12_program 88 = .ok (.aload_n 0, 1) := by decide +kernel
theorem dX12_program_89 : decode cX12_program 89 = .ok (.getfield 178, 3) := by decide +kernel
theorem dX12_program_92 : decode cX12_program 92 = .ok (.ifCond .ne 41, 3) := by decide +kernel
theorem dX12_program_133 : decode cX12_program 133 = .ok (.aload_n 0, 1) := by decide +kernel
theorem dX12_program_134 : decode cX12_program 134 = .ok (.getfield 407, 3) := by decide +kernel
theorem dX12_program_137 : decode cX12_program 137 = .ok (.ifCond .eq 46, 3) := by decide +kernel
theorem dX12_program_183 : decode cX12_program 183 = .ok (.aload_n 0, 1) := by decide +kernel
theorem dX12_program_184 : decode cX12_program 184 = .ok (.iconst 0, 1) := by decide +kernel
theorem dX12_program_185 : decode cX12_program 185 = .ok (.putfield 291, 3) := by decide +kernel
theorem dX12_program_188 : decode cX12_program 188 = .ok (.aload_n 0, 1) := by decide +kernel
theorem dX12_program_189 : decode cX12_program 189 = .ok (.iconst 0, 1) := by decide +kernel
theorem dX12_program_190 : decode cX12_program 190 = .ok (.putfield 249, 3) := by decide +kernel
theorem dX12_program_193 : decode cX12_program 193 = .ok (.aload_n 0, 1) := by decide +kernel
theorem dX12_program_194 : decode cX12_program 194 = .ok (.iconst 0, 1) := by decide +kernel
theorem dX12_program_195 : decode cX12_program 195 = .ok (.putfield 380, 3) := by decide +kernel
theorem dX12_program_198 : decode cX12_program 198 = .ok (.aload_n 0, 1) := by decide +kernel
theorem dX12_program_199 : decode cX12_program 199 = .ok (.getfield 404, 3) := by decide +kernel
theorem dX12_program_202 : decode cX12_program 202 = .ok (.ireturn, 1) := by decide +kernel
theorem dX12_feed_0 : decode cX12_feed 0 = .ok (.aload_n 0, 1) := by decide +kernel
theorem dX12_feed_1 : decode cX12_feed 1 = .ok (.iconst 0, 1) := by decide +kernel
theorem dX12_feed_2 : decode cX12_feed 2 = .ok (.putfield 175, 3) := by decide +kernel
theorem dX12_feed_5 : decode cX12_feed 5 = .ok (.aload_n 0, 1) := by decide +kernel
theorem dX12_feed_6 : decode cX12_feed 6 = .ok (.getfield 395, 3) := by decide +kernel
theorem dX12_feed_9 : decode cX12_feed 9 = .ok (.bipush 20, 2) := by decide +kernel
theorem dX12_feed_11 : decode cX12_feed 11 = .ok (.iadd, 1) := by decide +kernel
theorem dX12_feed_12 : decode cX12_feed 12 = .ok (.sipush 3000, 3) := by decide +kernel
theorem dX12_feed_15 : decode cX12_feed 15 = .ok (.if_icmp .le 5, 3) := by decide +kernel
theorem dX12_feed_20 : decode cX12_feed 20 = .ok (.iconst 0, 1) := by decide +kernel
theorem dX12_feed_21 : decode cX12_feed 21 = .ok (.istore 6, 2) := by decide +kernel
theorem dX12_feed_23 : decode cX12_feed 23 = .ok (.iload 6, 2) := by decide +kernel
theorem dX12_feed_25 : decode cX12_feed 25 = .ok (.bipush 20, 2) := by decide +kernel
theorem dX12_feed_27 : decode cX12_feed 27 = .ok (.if_icmp .ge 93, 3) := by decide +kernel
theorem dX12_feed_30 : decode cX12_feed 30 = .ok (.iload 6, 2) := by decide +kernel
theorem dX12_feed_32 : decode cX12_feed 32 = .ok (.iconst 4, 1) := by decide +kernel
theorem dX12_feed_33 : decode cX12_feed 33 = .ok (.if_icmp .ge 7, 3) := by decide +kernel
theorem dX12_feed_36 : decode cX12_feed 36 = .ok (.iload_n 1, 1) := by decide +kernel
theorem dX12_feed_37 : decode cX12_feed 37 = .ok (.goto 39, 3) := by decide +kernel
theorem dX12_feed_40 : decode cX12_feed 40 = .ok (.iload 6, 2) := by decide +kernel
theorem dX12_feed_42 : decode cX12_feed 42 = .ok (.bipush 8, 2) := by decide +kernel
theorem dX12_feed_44 : decode cX12_feed 44 = .ok (.if_icmp .ge 7, 3) := by decide +kernel
theorem dX12_feed_47 : decode cX12_feed 47 = .ok (.iload_n 2, 1) := by decide +kernel
theorem dX12_feed_48 : decode cX12_feed 48 = .ok (.goto 28, 3) := by decide +kernel
theorem dX12_feed_51 : decode cX12_feed 51 = .ok (.iload 6, 2) := by decide +kernel
theorem dX12_feed_53 : decode cX12_feed 53 = .ok (.bipush 12, 2) := by decide +kernel
theorem dX12_feed_55 : decode cX12_feed 55 = .ok (.if_icmp .ge 7, 3) := by decide +kernel
theorem dX12_feed_58 : decode cX12_feed 58 = .ok (.iload_n 3, 1) := by decide +kernel
theorem dX12_feed_59 : decode cX12_feed 59 = .ok (.goto 17, 3) := by decide +kernel
theorem dX12_feed_62 : decode cX12_feed 62 = .ok (.iload 6, 2) := by decide +kernel
theorem dX12_feed_64 : decode cX12_feed 64 = .ok (.bipush 16, 2) := by decide +kernel
theorem dX12_feed_66 : decode cX12_feed 66 = .ok (.if_icmp .ge 8, 3) := by decide +kernel
theorem dX12_feed_69 : decode cX12_feed 69 = .ok (.iload 4, 2) := by decide +kernel
theorem dX12_feed_71 : decode cX12_feed 71 = .ok (.goto 5, 3) := by decide +kernel
theorem dX12_feed_74 : decode cX12_feed 74 = .ok (.iload 5, 2) := by decide +kernel
theorem dX12_feed_76 : decode cX12_feed 76 = .ok (.istore 7, 2) := by decide +kernel
theorem dX12_feed_78 : decode cX12_feed 78 = .ok (.aload_n 0, 1) := by decide +kernel
theorem dX12_feed_79 : decode cX12_feed 79 = .ok (.getfield 39, 3) := by decide +kernel
theorem dX12_feed_82 : decode cX12_feed 82 = .ok (.aload_n 0, 1) := by decide +kernel
theorem dX12_feed_83 : decode cX12_feed 83 = .ok (.getfield 395, 3) := by decide +kernel
theorem dX12_feed_86 : decode cX12_feed 86 = .ok (.iload 7, 2) := by decide +kernel
theorem dX12_feed_88 : decode cX12_feed 88 = .ok (.bipush 24, 2) := by decide +kernel
theorem dX12_feed_90 : decode cX12_feed 90 = .ok (.bipush 8, 2) := by decide +kernel
theorem dX12_feed_92 : decode cX12_feed 92 = .ok (.iload 6, 2) := by decide +kernel
theorem dX12_feed_94 : decode cX12_feed 94 = .ok (.iconst 4, 1) := by decide +kernel
theorem dX12_feed_95 : decode cX12_feed 95 = .ok (.irem, 1) := by decide +kernel
theorem dX12_feed_96 : decode cX12_feed 96 = .ok (.imul, 1) := by decide +kernel
theorem dX12_feed_97 : decode cX12_feed 97 = .ok (.isub, 1) := by decide +kernel
theorem dX12_feed_98 : decode cX12_feed 98 = .ok (.ishr, 1) := by decide +kernel
theorem dX12_feed_99 : decode cX12_feed 99 = .ok (.sipush 255, 3) := by decide +kernel
theorem dX12_feed_102 : decode cX12_feed 102 = .ok (.iand, 1) := by decide +kernel
theorem dX12_feed_103 : decode cX12_feed 103 = .ok (.iastore, 1) := by decide +kernel
theorem dX12_feed_104 : decode cX12_feed 104 = .ok (.aload_n 0, 1) := by decide +kernel
theorem dX12_feed_105 : decode cX12_feed 105 = .ok (.dup, 1) := by decide +kernel
theorem dX12_feed_106 : decode cX12_feed 106 = .ok (.getfield 395, 3) := by decide +kernel
theorem dX12_feed_109 : decode cX12_feed 109 = .ok (.iconst 1, 1) := by decide +kernel
theorem dX12_feed_110 : decode cX12_feed 110 = .ok (.iadd, 1) := by decide +kernel
theorem dX12_feed_111 : decode cX12_feed 111 = .ok (.putfield 395, 3) := by decide +kernel
theorem dX12_feed_114 : decode cX12_feed 114 = .ok (.iinc 6 1, 3) := by decide +kernel
theorem dX12_feed_117 : decode cX12_feed 117 = .ok (.goto (-94), 3) := by decide +kernel
theorem dX12_feed_120 : decode cX12_feed 120 = .ok (.aload_n 0, 1) := by decide +kernel
theorem dX12_feed_121 : decode cX12_feed 121 = .ok (.getfield 395, 3) := by decide +kernel
theorem dX12_feed_124 : decode cX12_feed 124 = .ok (.ireturn, 1) := by decide +kernel
theorem dX12_fault_0 : decode cX12_fault 0 = .ok (.aload_n 0, 1) := by decide +kernel
theorem dX12_fault_1 : decode cX12_fault 1 = .ok (.iconst 0, 1) := by decide +kernel
theorem dX12_fault_2 : decode cX12_fault 2 = .ok (.putfield 175, 3) := by decide +kernel
theorem dX12_fault_5 : decode cX12_fault 5 = .ok (.iload_n 1, 1) := by decide +kernel
theorem dX12_fault_6 : decode cX12_fault 6 = .ok (.ifCond .lt 8, 3) := by decide +kernel
theorem dX12_fault_9 : decode cX12_fault 9 = .ok (.iload_n 1, 1) := by decide +kernel
theorem dX12_fault_10 : decode cX12_fault 10 = .ok (.iconst 1, 1) := by decide +kernel
theorem dX12_fault_11 : decode cX12_fault 11 = .ok (.if_icmp .le 8, 3) := by decide +kernel
theorem dX12_fault_14 : decode cX12_fault 14 = .ok (.aload_n 0, 1) := by decide +kernel
theorem dX12_fault_15 : decode cX12_fault 15 = .ok (.invokevirtual 398, 3) := by decide +kernel
theorem dX12_fault_18 : decode cX12_fault 18 = .ok (.ireturn, 1) := by decide +kernel
theorem dX12_fault_19 : decode cX12_fault 19 = .ok (.iload_n 1, 1) := by decide +kernel
theorem dX12_fault_20 : decode cX12_fault 20 = .ok (.ifCond .ne 10, 3) := by decide +kernel
theorem dX12_fault_23 : decode cX12_fault 23 = .ok (.aload_n 0, 1) := by decide +kernel
theorem dX12_fault_24 : decode cX12_fault 24 = .ok (.getfield 404, 3) := by decide +kernel
theorem dX12_fault_27 : decode cX12_fault 27 = .ok (.goto 7, 3) := by decide +kernel
theorem dX12_fault_30 : decode cX12_fault 30 = .ok (.aload_n 0, 1) := by decide +kernel
theorem dX12_fault_31 : decode cX12_fault 31 = .ok (.getfield 49, 3) := by decide +kernel
theorem dX12_fault_34 : decode cX12_fault 34 = .ok (.ireturn, 1) := by decide +kernel
theorem dX12_count_0 : decode cX12_count 0 = .ok (.aload_n 0, 1) := by decide +kernel
theorem dX12_count_1 : decode cX12_count 1 = .ok (.iconst 0, 1) := by decide +kernel
theorem dX12_count_2 : decode cX12_count 2 = .ok (.putfield 175, 3) := by decide +kernel
theorem dX12_count_5 : decode cX12_count 5 = .ok (.iload_n 1, 1) := by decide +kernel
theorem dX12_count_6 : decode cX12_count 6 = .ok (.tableswitch 91 0 6 #[42, 55, 60, 65, 70, 81, 86], 42) := by decide +kernel
theorem dX12_count_48 : decode cX12_count 48 = .ok (.aload_n 0, 1) := by decide +kernel
theorem dX12_count_49 : decode cX12_count 49 = .ok (.getfield 407, 3) := by decide +kernel
theorem dX12_count_52 : decode cX12_count 52 = .ok (.ifCond .eq 7, 3) := by decide +kernel
theorem dX12_count_59 : decode cX12_count 59 = .ok (.iconst 0, 1) := by decide +kernel
theorem dX12_count_60 : decode cX12_count 60 = .ok (.ireturn, 1) := by decide +kernel
theorem dX12_count_61 : decode cX12_count 61 = .ok (.aload_n 0, 1) := by decide +kernel
theorem dX12_count_62 : decode cX12_count 62 = .ok (.getfield 291, 3) := by decide +kernel
theorem dX12_count_65 : decode cX12_count 65 = .ok (.ireturn, 1) := by decide +kernel
theorem dX12_count_66 : decode cX12_count 66 = .ok (.aload_n 0, 1) := by decide +kernel
theorem dX12_count_67 : decode cX12_count 67 = .ok (.getfield 249, 3) := by decide +kernel
theorem dX12_count_70 : decode cX12_count 70 = .ok (.ireturn, 1) := by decide +kernel
theorem dX12_count_71 : decode cX12_count 71 = .ok (.aload_n 0, 1) := by decide +kernel
theorem dX12_count_72 : decode cX12_count 72 = .ok (.getfield 380, 3) := by decide +kernel
theorem dX12_count_75 : decode cX12_count 75 = .ok (.ireturn, 1) := by decide +kernel
theorem dX12_count_76 : decode cX12_count 76 = .ok (.aload_n 0, 1) := by decide +kernel
theorem dX12_count_77 : decode cX12_count 77 = .ok (.getfield 414, 3) := by decide +kernel
theorem dX12_count_80 : decode cX12_count 80 = .ok (.sipush 20000, 3) := by decide +kernel
theorem dX12_count_83 : decode cX12_count 83 = .ok (.invokestatic 417, 3) := by decide +kernel
theorem dX12_count_86 : decode cX12_count 86 = .ok (.ireturn, 1) := by decide +kernel
theorem dX12_count_87 : decode cX12_count 87 = .ok (.aload_n 0, 1) := by decide +kernel
theorem dX12_count_88 : decode cX12_count 88 = .ok (.getfield 395, 3) := by decide +kernel
theorem dX12_count_91 : decode cX12_count 91 = .ok (.ireturn, 1) := by decide +kernel
theorem dX12_count_92 : decode cX12_count 92 = .ok (.aload_n 0, 1) := by decide +kernel
theorem dX12_count_93 : decode cX12_count 93 = .ok (.getfield 422, 3) := by decide +kernel
theorem dX12_count_96 : decode cX12_count 96 = .ok (.ireturn, 1) := by decide +kernel
theorem dX12_count_97 : decode cX12_count 97 = .ok (.aload_n 0, 1) := by decide +kernel
theorem dX12_count_98 : decode cX12_count 98 = .ok (.invokevirtual 398, 3) := by decide +kernel
theorem dX12_count_101 : decode cX12_count 101 = .ok (.ireturn, 1) := by decide +kernel
theorem dX12_function_0 : decode cX12_function 0 = .ok (.aload_n 0, 1) := by decide +kernel
theorem dX12_function_1 : decode cX12_function 1 = .ok (.iconst 0, 1) := by decide +kernel
theorem dX12_function_2 : decode cX12_function 2 = .ok (.putfield 175, 3) := by decide +kernel
theorem dX12_function_5 : decode cX12_function 5 = .ok (.iload_n 1, 1) := by decide +kernel
theorem dX12_function_6 : decode cX12_function 6 = .ok (.ifCond .lt 11, 3) := by decide +kernel
theorem dX12_function_9 : decode cX12_function 9 = .ok (.iload_n 1, 1) := by decide +kernel
theorem dX12_function_10 : decode cX12_function 10 = .ok (.aload_n 0, 1) := by decide +kernel
theorem dX12_function_11 : decode cX12_function 11 = .ok (.getfield 291, 3) := by decide +kernel
theorem dX12_function_14 : decode cX12_function 14 = .ok (.if_icmp .lt 8, 3) := by decide +kernel
theorem dX12_function_17 : decode cX12_function 17 = .ok (.aload_n 0, 1) := by decide +kernel
theorem dX12_function_18 : decode cX12_function 18 = .ok (.invokevirtual 398, 3) := by decide +kernel
theorem dX12_function_21 : decode cX12_function 21 = .ok (.ireturn, 1) := by decide +kernel
theorem dX12_needs_0 : decode cX12_needs 0 = .ok (.aload_n 0, 1) := by decide +kernel
theorem dX12_needs_1 : decode cX12_needs 1 = .ok (.iconst 0, 1) := by decide +kernel
theorem dX12_needs_2 : decode cX12_needs 2 = .ok (.putfield 175, 3) := by decide +kernel
theorem dX12_needs_5 : decode cX12_needs 5 = .ok (.iload_n 1, 1) := by decide +kernel
theorem dX12_needs_6 : decode cX12_needs 6 = .ok (.ifCond .lt 38, 3) := by decide +kernel
theorem dX12_needs_9 : decode cX12_needs 9 = .ok (.iload_n 1, 1) := by decide +kernel
theorem dX12_needs_10 : decode cX12_needs 10 = .ok (.aload_n 0, 1) := by decide +kernel
theorem dX12_needs_11 : decode cX12_needs 11 = .ok (.getfield 291, 3) := by decide +kernel
theorem dX12_needs_14 : decode cX12_needs 14 = .ok (.if_icmp .ge 30, 3) := by decide +kernel
theorem dX12_needs_44 : decode cX12_needs 44 = .ok (.aload_n 0, 1) := by decide +kernel
theorem dX12_needs_45 : decode cX12_needs 45 = .ok (.invokevirtual 398, 3) := by decide +kernel
theorem dX12_needs_48 : decode cX12_needs 48 = .ok (.ireturn, 1) := by decide +kernel
theorem dX12_text_0 : decode cX12_text 0 = .ok (.aload_n 0, 1) := by decide +kernel
theorem dX12_text_1 : decode cX12_text 1 = .ok (.iconst 0, 1) := by decide +kernel
theorem dX12_text_2 : decode cX12_text 2 = .ok (.putfield 175, 3) := by decide +kernel
theorem dX12_text_5 : decode cX12_text 5 = .ok (.aload_n 0, 1) := by decide +kernel
theorem dX12_text_6 : decode cX12_text 6 = .ok (.iconst 0, 1) := by decide +kernel
theorem dX12_text_7 : decode cX12_text 7 = .ok (.putfield 414, 3) := by decide +kernel
theorem dX12_text_10 : decode cX12_text 10 = .ok (.aload_n 0, 1) := by decide +kernel
theorem dX12_text_11 : decode cX12_text 11 = .ok (.getfield 407, 3) := by decide +kernel
theorem dX12_text_14 : decode cX12_text 14 = .ok (.ifCond .eq 12, 3) := by decide +kernel
theorem dX12_text_26 : decode cX12_text 26 = .ok (.iconst (-1), 1) := by decide +kernel
theorem dX12_text_27 : decode cX12_text 27 = .ok (.ireturn, 1) := by decide +kernel
theorem dX12_type_0 : decode cX12_type 0 = .ok (.aload_n 0, 1) := by decide +kernel
theorem dX12_type_1 : decode cX12_type 1 = .ok (.iconst 0, 1) := by decide +kernel
theorem dX12_type_2 : decode cX12_type 2 = .ok (.putfield 175, 3) := by decide +kernel
theorem dX12_type_5 : decode cX12_type 5 = .ok (.aload_n 0, 1) := by decide +kernel
theorem dX12_type_6 : decode cX12_type 6 = .ok (.iconst 0, 1) := by decide +kernel
theorem dX12_type_7 : decode cX12_type 7 = .ok (.putfield 414, 3) := by decide +kernel
theorem dX12_type_10 : decode cX12_type 10 = .ok (.aload_n 0, 1) := by decide +kernel
theorem dX12_type_11 : decode cX12_type 11 = .ok (.getfield 407, 3) := by decide +kernel
theorem dX12_type_14 : decode cX12_type 14 = .ok (.ifCond .ne 5, 3) := by decide +kernel
theorem dX12_type_17 : decode cX12_type 17 = .ok (.iconst (-1), 1) := by decide +kernel
theorem dX12_type_18 : decode cX12_type 18 = .ok (.ireturn, 1) := by decide +kernel
theorem dX12_run_0 : decode cX12_run 0 = .ok (.aload_n 0, 1) := by decide +kernel
theorem dX12_run_1 : decode cX12_run 1 = .ok (.iconst 0, 1) := by decide +kernel
theorem dX12_run_2 : decode cX12_run 2 = .ok (.putfield 175, 3) := by decide +kernel
theorem dX12_run_5 : decode cX12_run 5 = .ok (.aload_n 0, 1) := by decide +kernel
theorem dX12_run_6 : decode cX12_run 6 = .ok (.getfield 407, 3) := by decide +kernel
theorem dX12_run_9 : decode cX12_run 9 = .ok (.ifCond .eq 24, 3) := by decide +kernel
theorem dX12_run_33 : decode cX12_run 33 = .ok (.iconst (-1), 1) := by decide +kernel
theorem dX12_run_34 : decode cX12_run 34 = .ok (.ireturn, 1) := by decide +kernel
theorem dX12_cost_0 : decode cX12_cost 0 = .ok (.aload_n 0, 1) := by decide +kernel
theorem dX12_cost_1 : decode cX12_cost 1 = .ok (.iconst 0, 1) := by decide +kernel
theorem dX12_cost_2 : decode cX12_cost 2 = .ok (.putfield 175, 3) := by decide +kernel
theorem dX12_cost_5 : decode cX12_cost 5 = .ok (.iload_n 1, 1) := by decide +kernel
theorem dX12_cost_6 : decode cX12_cost 6 = .ok (.tableswitch 86 0 3 #[30, 35, 52, 69], 30) := by decide +kernel
theorem dX12_cost_36 : decode cX12_cost 36 = .ok (.aload_n 0, 1) := by decide +kernel
theorem dX12_cost_37 : decode cX12_cost 37 = .ok (.getfield 148, 3) := by decide +kernel
theorem dX12_cost_40 : decode cX12_cost 40 = .ok (.ireturn, 1) := by decide +kernel
theorem dX12_cost_41 : decode cX12_cost 41 = .ok (.aload_n 0, 1) := by decide +kernel
theorem dX12_cost_42 : decode cX12_cost 42 = .ok (.getfield 148, 3) := by decide +kernel
theorem dX12_cost_45 : decode cX12_cost 45 = .ok (.iconst (-1), 1) := by decide +kernel
theorem dX12_cost_46 : decode cX12_cost 46 = .ok (.if_icmp .ne 7, 3) := by decide +kernel
theorem dX12_cost_49 : decode cX12_cost 49 = .ok (.iconst 0, 1) := by decide +kernel
theorem dX12_cost_50 : decode cX12_cost 50 = .ok (.goto 7, 3) := by decide +kernel
theorem dX12_cost_57 : decode cX12_cost 57 = .ok (.ireturn, 1) := by decide +kernel
theorem dX12_cost_58 : decode cX12_cost 58 = .ok (.aload_n 0, 1) := by decide +kernel
theorem dX12_cost_59 : decode cX12_cost 59 = .ok (.getfield 148, 3) := by decide +kernel
theorem dX12_cost_62 : decode cX12_cost 62 = .ok (.iconst (-1), 1) := by decide +kernel
theorem dX12_cost_63 : decode cX12_cost 63 = .ok (.if_icmp .ne 7, 3) := by decide +kernel
theorem dX12_cost_66 : decode cX12_cost 66 = .ok (.iconst 0, 1) := by decide +kernel
theorem dX12_cost_67 : decode cX12_cost 67 = .ok (.goto 7, 3) := by decide +kernel
theorem dX12_cost_74 : decode cX12_cost 74 = .ok (.ireturn, 1) := by decide +kernel
theorem dX12_cost_75 : decode cX12_cost 75 = .ok (.aload_n 0, 1) := by decide +kernel
theorem dX12_cost_76 : decode cX12_cost 76 = .ok (.getfield 148, 3) := by decide +kernel
theorem dX12_cost_79 : decode cX12_cost 79 = .ok (.iconst (-1), 1) := by decide +kernel
theorem dX12_cost_80 : decode cX12_cost 80 = .ok (.if_icmp .ne 7, 3) := by decide +kernel
theorem dX12_cost_83 : decode cX12_cost 83 = .ok (.iconst 0, 1) := by decide +kernel
theorem dX12_cost_84 : decode cX12_cost 84 = .ok (.goto 7, 3) := by decide +kernel
theorem dX12_cost_91 : decode cX12_cost 91 = .ok (.ireturn, 1) := by decide +kernel
theorem dX12_cost_92 : decode cX12_cost 92 = .ok (.aload_n 0, 1) := by decide +kernel
theorem dX12_cost_93 : decode cX12_cost 93 = .ok (.invokevirtual 398, 3) := by decide +kernel
theorem dX12_cost_96 : decode cX12_cost 96 = .ok (.ireturn, 1) := by decide +kernel
theorem dX12_answer_0 : decode cX12_answer 0 = .ok (.aload_n 0, 1) := by decide +kernel
theorem dX12_answer_1 : decode cX12_answer 1 = .ok (.iconst 0, 1) := by decide +kernel
theorem dX12_answer_2 : decode cX12_answer 2 = .ok (.putfield 175, 3) := by decide +kernel
theorem dX12_answer_5 : decode cX12_answer 5 = .ok (.aload_n 0, 1) := by decide +kernel
theorem dX12_answer_6 : decode cX12_answer 6 = .ok (.iconst 0, 1) := by decide +kernel
theorem dX12_answer_7 : decode cX12_answer 7 = .ok (.putfield 414, 3) := by decide +kernel
theorem dX12_answer_10 : decode cX12_answer 10 = .ok (.aload_n 0, 1) := by decide +kernel
theorem dX12_answer_11 : decode cX12_answer 11 = .ok (.getfield 582, 3) := by decide +kernel
theorem dX12_answer_14 : decode cX12_answer 14 = .ok (.ifCond .ne 5, 3) := by decide +kernel
theorem dX12_answer_17 : decode cX12_answer 17 = .ok (.iconst (-1), 1) := by decide +kernel
theorem dX12_answer_18 : decode cX12_answer 18 = .ok (.ireturn, 1) := by decide +kernel
theorem dX12_told_0 : decode cX12_told 0 = .ok (.aload_n 0, 1) := by decide +kernel
theorem dX12_told_1 : decode cX12_told 1 = .ok (.iconst 0, 1) := by decide +kernel
theorem dX12_told_2 : decode cX12_told 2 = .ok (.putfield 175, 3) := by decide +kernel
theorem dX12_told_5 : decode cX12_told 5 = .ok (.iload_n 1, 1) := by decide +kernel
theorem dX12_told_6 : decode cX12_told 6 = .ok (.ifCond .lt 18, 3) := by decide +kernel
theorem dX12_told_9 : decode cX12_told 9 = .ok (.iload_n 1, 1) := by decide +kernel
theorem dX12_told_10 : decode cX12_told 10 = .ok (.aload_n 0, 1) := by decide +kernel
theorem dX12_told_11 : decode cX12_told 11 = .ok (.getfield 414, 3) := by decide +kernel
theorem dX12_told_14 : decode cX12_told 14 = .ok (.if_icmp .ge 10, 3) := by decide +kernel
theorem dX12_told_24 : decode cX12_told 24 = .ok (.aload_n 0, 1) := by decide +kernel
theorem dX12_told_25 : decode cX12_told 25 = .ok (.invokevirtual 398, 3) := by decide +kernel
theorem dX12_told_28 : decode cX12_told 28 = .ok (.ireturn, 1) := by decide +kernel
theorem dL_program_0 : decode cL_program 0 = .ok (.aload_n 2, 1) := by decide +kernel
theorem dL_program_1 : decode cL_program 1 = .ok (.iconst 0, 1) := by decide +kernel
theorem dL_program_2 : decode cL_program 2 = .ok (.aload_n 0, 1) := by decide +kernel
theorem dL_program_3 : decode cL_program 3 = .ok (.iload_n 1, 1) := by decide +kernel
theorem dL_program_4 : decode cL_program 4 = .ok (.invokevirtual 7, 3) := by decide +kernel
theorem dL_program_7 : decode cL_program 7 = .ok (.i2l, 1) := by decide +kernel
theorem dL_program_8 : decode cL_program 8 = .ok (.lastore, 1) := by decide +kernel
theorem dL_program_9 : decode cL_program 9 = .ok (.goto 6, 3) := by decide +kernel
theorem dL_program_12 : decode cL_program 12 = .ok (.astore_n 3, 1) := by decide +kernel
theorem dL_program_13 : decode cL_program 13 = .ok (.iconst 1, 1) := by decide +kernel
theorem dL_program_14 : decode cL_program 14 = .ok (.ireturn, 1) := by decide +kernel
theorem dL_program_15 : decode cL_program 15 = .ok (.iconst 0, 1) := by decide +kernel
theorem dL_program_16 : decode cL_program 16 = .ok (.ireturn, 1) := by decide +kernel
theorem dL_fault_0 : decode cL_fault 0 = .ok (.aload_n 2, 1) := by decide +kernel
theorem dL_fault_1 : decode cL_fault 1 = .ok (.iconst 0, 1) := by decide +kernel
theorem dL_fault_2 : decode cL_fault 2 = .ok (.aload_n 0, 1) := by decide +kernel
theorem dL_fault_3 : decode cL_fault 3 = .ok (.iload_n 1, 1) := by decide +kernel
theorem dL_fault_4 : decode cL_fault 4 = .ok (.invokevirtual 15, 3) := by decide +kernel
theorem dL_fault_7 : decode cL_fault 7 = .ok (.i2l, 1) := by decide +kernel
theorem dL_fault_8 : decode cL_fault 8 = .ok (.lastore, 1) := by decide +kernel
theorem dL_fault_9 : decode cL_fault 9 = .ok (.goto 6, 3) := by decide +kernel
theorem dL_fault_12 : decode cL_fault 12 = .ok (.astore_n 3, 1) := by decide +kernel
theorem dL_fault_13 : decode cL_fault 13 = .ok (.iconst 1, 1) := by decide +kernel
theorem dL_fault_14 : decode cL_fault 14 = .ok (.ireturn, 1) := by decide +kernel
theorem dL_fault_15 : decode cL_fault 15 = .ok (.iconst 0, 1) := by decide +kernel
theorem dL_fault_16 : decode cL_fault 16 = .ok (.ireturn, 1) := by decide +kernel
theorem dL_count_0 : decode cL_count 0 = .ok (.aload_n 2, 1) := by decide +kernel
theorem dL_count_1 : decode cL_count 1 = .ok (.iconst 0, 1) := by decide +kernel
theorem dL_count_2 : decode cL_count 2 = .ok (.aload_n 0, 1) := by decide +kernel
theorem dL_count_3 : decode cL_count 3 = .ok (.iload_n 1, 1) := by decide +kernel
theorem dL_count_4 : decode cL_count 4 = .ok (.invokevirtual 20, 3) := by decide +kernel
theorem dL_count_7 : decode cL_count 7 = .ok (.i2l, 1) := by decide +kernel
theorem dL_count_8 : decode cL_count 8 = .ok (.lastore, 1) := by decide +kernel
theorem dL_count_9 : decode cL_count 9 = .ok (.goto 6, 3) := by decide +kernel
theorem dL_count_12 : decode cL_count 12 = .ok (.astore_n 3, 1) := by decide +kernel
theorem dL_count_13 : decode cL_count 13 = .ok (.iconst 1, 1) := by decide +kernel
theorem dL_count_14 : decode cL_count 14 = .ok (.ireturn, 1) := by decide +kernel
theorem dL_count_15 : decode cL_count 15 = .ok (.iconst 0, 1) := by decide +kernel
theorem dL_count_16 : decode cL_count 16 = .ok (.ireturn, 1) := by decide +kernel
theorem dL_function_0 : decode cL_function 0 = .ok (.aload_n 3, 1) := by decide +kernel
theorem dL_function_1 : decode cL_function 1 = .ok (.iconst 0, 1) := by decide +kernel
theorem dL_function_2 : decode cL_function 2 = .ok (.aload_n 0, 1) := by decide +kernel
theorem dL_function_3 : decode cL_function 3 = .ok (.iload_n 1, 1) := by decide +kernel
theorem dL_function_4 : decode cL_function 4 = .ok (.iload_n 2, 1) := by decide +kernel
theorem dL_function_5 : decode cL_function 5 = .ok (.invokevirtual 23, 3) := by decide +kernel
theorem dL_function_13 : decode cL_function 13 = .ok (.astore 4, 2) := by decide +kernel
theorem dL_function_15 : decode cL_function 15 = .ok (.iconst 1, 1) := by decide +kernel
theorem dL_function_16 : decode cL_function 16 = .ok (.ireturn, 1) := by decide +kernel
theorem dL_needs_0 : decode cL_needs 0 = .ok (.aload 4, 2) := by decide +kernel
theorem dL_needs_2 : decode cL_needs 2 = .ok (.iconst 0, 1) := by decide +kernel
theorem dL_needs_3 : decode cL_needs 3 = .ok (.aload_n 0, 1) := by decide +kernel
theorem dL_needs_4 : decode cL_needs 4 = .ok (.iload_n 1, 1) := by decide +kernel
theorem dL_needs_5 : decode cL_needs 5 = .ok (.iload_n 2, 1) := by decide +kernel
theorem dL_needs_6 : decode cL_needs 6 = .ok (.iload_n 3, 1) := by decide +kernel
theorem dL_needs_7 : decode cL_needs 7 = .ok (.invokevirtual 27, 3) := by decide +kernel
theorem dL_needs_15 : decode cL_needs 15 = .ok (.astore 5, 2) := by decide +kernel
theorem dL_needs_17 : decode cL_needs 17 = .ok (.iconst 1, 1) := by decide +kernel
theorem dL_needs_18 : decode cL_needs 18 = .ok (.ireturn, 1) := by decide +kernel
theorem dL_cost_0 : decode cL_cost 0 = .ok (.aload_n 2, 1) := by decide +kernel
theorem dL_cost_1 : decode cL_cost 1 = .ok (.iconst 0, 1) := by decide +kernel
theorem dL_cost_2 : decode cL_cost 2 = .ok (.aload_n 0, 1) := by decide +kernel
theorem dL_cost_3 : decode cL_cost 3 = .ok (.iload_n 1, 1) := by decide +kernel
theorem dL_cost_4 : decode cL_cost 4 = .ok (.invokevirtual 31, 3) := by decide +kernel
theorem dL_cost_7 : decode cL_cost 7 = .ok (.i2l, 1) := by decide +kernel
theorem dL_cost_8 : decode cL_cost 8 = .ok (.lastore, 1) := by decide +kernel
theorem dL_cost_9 : decode cL_cost 9 = .ok (.goto 6, 3) := by decide +kernel
theorem dL_cost_12 : decode cL_cost 12 = .ok (.astore_n 3, 1) := by decide +kernel
theorem dL_cost_13 : decode cL_cost 13 = .ok (.iconst 1, 1) := by decide +kernel
theorem dL_cost_14 : decode cL_cost 14 = .ok (.ireturn, 1) := by decide +kernel
theorem dL_cost_15 : decode cL_cost 15 = .ok (.iconst 0, 1) := by decide +kernel
theorem dL_cost_16 : decode cL_cost 16 = .ok (.ireturn, 1) := by decide +kernel
theorem dL_told_0 : decode cL_told 0 = .ok (.aload_n 2, 1) := by decide +kernel
theorem dL_told_1 : decode cL_told 1 = .ok (.iconst 0, 1) := by decide +kernel
theorem dL_told_2 : decode cL_told 2 = .ok (.aload_n 0, 1) := by decide +kernel
theorem dL_told_3 : decode cL_told 3 = .ok (.iload_n 1, 1) := by decide +kernel
theorem dL_told_4 : decode cL_told 4 = .ok (.invokevirtual 34, 3) := by decide +kernel
theorem dL_told_12 : decode cL_told 12 = .ok (.astore_n 3, 1) := by decide +kernel
theorem dL_told_13 : decode cL_told 13 = .ok (.iconst 1, 1) := by decide +kernel
theorem dL_told_14 : decode cL_told 14 = .ok (.ireturn, 1) := by decide +kernel
theorem dL_law_0 : decode cL_law 0 = .ok (.new 8, 3) := by decide +kernel
theorem dL_law_3 : decode cL_law 3 = .ok (.dup, 1) := by decide +kernel
theorem dL_law_4 : decode cL_law 4 = .ok (.invokespecial 37, 3) := by decide +kernel
theorem dL_law_7 : decode cL_law 7 = .ok (.astore_n 1, 1) := by decide +kernel
theorem dL_law_8 : decode cL_law 8 = .ok (.new 38, 3) := by decide +kernel
theorem dL_law_11 : decode cL_law 11 = .ok (.dup, 1) := by decide +kernel
theorem dL_law_12 : decode cL_law 12 = .ok (.invokespecial 40, 3) := by decide +kernel
theorem dL_law_15 : decode cL_law 15 = .ok (.astore_n 2, 1) := by decide +kernel
theorem dL_law_16 : decode cL_law 16 = .ok (.iconst 1, 1) := by decide +kernel
theorem dL_law_17 : decode cL_law 17 = .ok (.newarray .long, 2) := by decide +kernel
theorem dL_law_19 : decode cL_law 19 = .ok (.astore_n 3, 1) := by decide +kernel
theorem dL_law_20 : decode cL_law 20 = .ok (.iconst 0, 1) := by decide +kernel
theorem dL_law_21 : decode cL_law 21 = .ok (.istore 4, 2) := by decide +kernel
theorem dL_law_23 : decode cL_law 23 = .ok (.iload 4, 2) := by decide +kernel
theorem dL_law_25 : decode cL_law 25 = .ok (.aload_n 0, 1) := by decide +kernel
theorem dL_law_26 : decode cL_law 26 = .ok (.arraylength, 1) := by decide +kernel
theorem dL_law_27 : decode cL_law 27 = .ok (.bipush 6, 2) := by decide +kernel
theorem dL_law_29 : decode cL_law 29 = .ok (.isub, 1) := by decide +kernel
theorem dL_law_30 : decode cL_law 30 = .ok (.if_icmp .gt 685, 3) := by decide +kernel
theorem dL_law_33 : decode cL_law 33 = .ok (.aload_n 0, 1) := by decide +kernel
theorem dL_law_34 : decode cL_law 34 = .ok (.iload 4, 2) := by decide +kernel
theorem dL_law_36 : decode cL_law 36 = .ok (.iaload, 1) := by decide +kernel
theorem dL_law_37 : decode cL_law 37 = .ok (.bipush 15, 2) := by decide +kernel
theorem dL_law_39 : decode cL_law 39 = .ok (.iand, 1) := by decide +kernel
theorem dL_law_40 : decode cL_law 40 = .ok (.tableswitch 669 0 11 #[64, 137, 193, 249, 305, 373, 469, 494, 507, 544, 600, 613], 64) := by decide +kernel
theorem dL_law_104 : decode cL_law 104 = .ok (.aload_n 1, 1) := by decide +kernel
theorem dL_law_105 : decode cL_law 105 = .ok (.aload_n 0, 1) := by decide +kernel
theorem dL_law_106 : decode cL_law 106 = .ok (.iload 4, 2) := by decide +kernel
theorem dL_law_108 : decode cL_law 108 = .ok (.iconst 1, 1) := by decide +kernel
theorem dL_law_109 : decode cL_law 109 = .ok (.iadd, 1) := by decide +kernel
theorem dL_law_110 : decode cL_law 110 = .ok (.iaload, 1) := by decide +kernel
theorem dL_law_111 : decode cL_law 111 = .ok (.aload_n 0, 1) := by decide +kernel
theorem dL_law_112 : decode cL_law 112 = .ok (.iload 4, 2) := by decide +kernel
theorem dL_law_114 : decode cL_law 114 = .ok (.iconst 2, 1) := by decide +kernel
theorem dL_law_115 : decode cL_law 115 = .ok (.iadd, 1) := by decide +kernel
theorem dL_law_116 : decode cL_law 116 = .ok (.iaload, 1) := by decide +kernel
theorem dL_law_117 : decode cL_law 117 = .ok (.aload_n 0, 1) := by decide +kernel
theorem dL_law_118 : decode cL_law 118 = .ok (.iload 4, 2) := by decide +kernel
theorem dL_law_120 : decode cL_law 120 = .ok (.iconst 3, 1) := by decide +kernel
theorem dL_law_121 : decode cL_law 121 = .ok (.iadd, 1) := by decide +kernel
theorem dL_law_122 : decode cL_law 122 = .ok (.iaload, 1) := by decide +kernel
theorem dL_law_123 : decode cL_law 123 = .ok (.aload_n 0, 1) := by decide +kernel
theorem dL_law_124 : decode cL_law 124 = .ok (.iload 4, 2) := by decide +kernel
theorem dL_law_126 : decode cL_law 126 = .ok (.iconst 4, 1) := by decide +kernel
theorem dL_law_127 : decode cL_law 127 = .ok (.iadd, 1) := by decide +kernel
theorem dL_law_128 : decode cL_law 128 = .ok (.iaload, 1) := by decide +kernel
theorem dL_law_129 : decode cL_law 129 = .ok (.aload_n 0, 1) := by decide +kernel
theorem dL_law_130 : decode cL_law 130 = .ok (.iload 4, 2) := by decide +kernel
theorem dL_law_132 : decode cL_law 132 = .ok (.iconst 5, 1) := by decide +kernel
theorem dL_law_133 : decode cL_law 133 = .ok (.iadd, 1) := by decide +kernel
theorem dL_law_134 : decode cL_law 134 = .ok (.iaload, 1) := by decide +kernel
theorem dL_law_135 : decode cL_law 135 = .ok (.invokevirtual 41, 3) := by decide +kernel
theorem dL_law_138 : decode cL_law 138 = .ok (.aload_n 2, 1) := by decide +kernel
theorem dL_law_139 : decode cL_law 139 = .ok (.aload_n 0, 1) := by decide +kernel
theorem dL_law_140 : decode cL_law 140 = .ok (.iload 4, 2) := by decide +kernel
theorem dL_law_142 : decode cL_law 142 = .ok (.iconst 1, 1) := by decide +kernel
theorem dL_law_143 : decode cL_law 143 = .ok (.iadd, 1) := by decide +kernel
theorem dL_law_144 : decode cL_law 144 = .ok (.iaload, 1) := by decide +kernel
theorem dL_law_145 : decode cL_law 145 = .ok (.aload_n 0, 1) := by decide +kernel
theorem dL_law_146 : decode cL_law 146 = .ok (.iload 4, 2) := by decide +kernel
theorem dL_law_148 : decode cL_law 148 = .ok (.iconst 2, 1) := by decide +kernel
theorem dL_law_149 : decode cL_law 149 = .ok (.iadd, 1) := by decide +kernel
theorem dL_law_150 : decode cL_law 150 = .ok (.iaload, 1) := by decide +kernel
theorem dL_law_151 : decode cL_law 151 = .ok (.aload_n 0, 1) := by decide +kernel
theorem dL_law_152 : decode cL_law 152 = .ok (.iload 4, 2) := by decide +kernel
theorem dL_law_154 : decode cL_law 154 = .ok (.iconst 3, 1) := by decide +kernel
theorem dL_law_155 : decode cL_law 155 = .ok (.iadd, 1) := by decide +kernel
theorem dL_law_156 : decode cL_law 156 = .ok (.iaload, 1) := by decide +kernel
theorem dL_law_157 : decode cL_law 157 = .ok (.aload_n 0, 1) := by decide +kernel
theorem dL_law_158 : decode cL_law 158 = .ok (.iload 4, 2) := by decide +kernel
theorem dL_law_160 : decode cL_law 160 = .ok (.iconst 4, 1) := by decide +kernel
theorem dL_law_161 : decode cL_law 161 = .ok (.iadd, 1) := by decide +kernel
theorem dL_law_162 : decode cL_law 162 = .ok (.iaload, 1) := by decide +kernel
theorem dL_law_163 : decode cL_law 163 = .ok (.aload_n 0, 1) := by decide +kernel
theorem dL_law_164 : decode cL_law 164 = .ok (.iload 4, 2) := by decide +kernel
theorem dL_law_166 : decode cL_law 166 = .ok (.iconst 5, 1) := by decide +kernel
theorem dL_law_167 : decode cL_law 167 = .ok (.iadd, 1) := by decide +kernel
theorem dL_law_168 : decode cL_law 168 = .ok (.iaload, 1) := by decide +kernel
theorem dL_law_169 : decode cL_law 169 = .ok (.invokevirtual 45, 3) := by decide +kernel
theorem dL_law_172 : decode cL_law 172 = .ok (.if_icmp .eq 537, 3) := by decide +kernel
theorem dL_law_177 : decode cL_law 177 = .ok (.aload_n 1, 1) := by decide +kernel
theorem dL_law_178 : decode cL_law 178 = .ok (.aload_n 0, 1) := by decide +kernel
theorem dL_law_179 : decode cL_law 179 = .ok (.iload 4, 2) := by decide +kernel
theorem dL_law_181 : decode cL_law 181 = .ok (.iconst 1, 1) := by decide +kernel
theorem dL_law_182 : decode cL_law 182 = .ok (.iadd, 1) := by decide +kernel
theorem dL_law_183 : decode cL_law 183 = .ok (.iaload, 1) := by decide +kernel
theorem dL_law_184 : decode cL_law 184 = .ok (.aload_n 3, 1) := by decide +kernel
theorem dL_law_185 : decode cL_law 185 = .ok (.invokestatic 46, 3) := by decide +kernel
theorem dL_law_188 : decode cL_law 188 = .ok (.istore 5, 2) := by decide +kernel
theorem dL_law_190 : decode cL_law 190 = .ok (.aload_n 2, 1) := by decide +kernel
theorem dL_law_191 : decode cL_law 191 = .ok (.aload_n 0, 1) := by decide +kernel
theorem dL_law_192 : decode cL_law 192 = .ok (.iload 4, 2) := by decide +kernel
theorem dL_law_194 : decode cL_law 194 = .ok (.iconst 1, 1) := by decide +kernel
theorem dL_law_195 : decode cL_law 195 = .ok (.iadd, 1) := by decide +kernel
theorem dL_law_196 : decode cL_law 196 = .ok (.iaload, 1) := by decide +kernel
theorem dL_law_197 : decode cL_law 197 = .ok (.invokevirtual 51, 3) := by decide +kernel
theorem dL_law_200 : decode cL_law 200 = .ok (.istore 6, 2) := by decide +kernel
theorem dL_law_202 : decode cL_law 202 = .ok (.aload_n 2, 1) := by decide +kernel
theorem dL_law_203 : decode cL_law 203 = .ok (.invokevirtual 52, 3) := by decide +kernel
theorem dL_law_206 : decode cL_law 206 = .ok (.iload 5, 2) := by decide +kernel
theorem dL_law_208 : decode cL_law 208 = .ok (.if_icmp .eq 5, 3) := by decide +kernel
theorem dL_law_213 : decode cL_law 213 = .ok (.iload 5, 2) := by decide +kernel
theorem dL_law_215 : decode cL_law 215 = .ok (.ifCond .ne 15, 3) := by decide +kernel
theorem dL_law_218 : decode cL_law 218 = .ok (.aload_n 3, 1) := by decide +kernel
theorem dL_law_219 : decode cL_law 219 = .ok (.iconst 0, 1) := by decide +kernel
theorem dL_law_220 : decode cL_law 220 = .ok (.laload, 1) := by decide +kernel
theorem dL_law_221 : decode cL_law 221 = .ok (.iload 6, 2) := by decide +kernel
theorem dL_law_223 : decode cL_law 223 = .ok (.i2l, 1) := by decide +kernel
theorem dL_law_224 : decode cL_law 224 = .ok (.lcmp, 1) := by decide +kernel
theorem dL_law_225 : decode cL_law 225 = .ok (.ifCond .eq 5, 3) := by decide +kernel
theorem dL_law_230 : decode cL_law 230 = .ok (.goto 479, 3) := by decide +kernel
theorem dL_law_233 : decode cL_law 233 = .ok (.aload_n 1, 1) := by decide +kernel
theorem dL_law_234 : decode cL_law 234 = .ok (.aload_n 0, 1) := by decide +kernel
theorem dL_law_235 : decode cL_law 235 = .ok (.iload 4, 2) := by decide +kernel
theorem dL_law_237 : decode cL_law 237 = .ok (.iconst 1, 1) := by decide +kernel
theorem dL_law_238 : decode cL_law 238 = .ok (.iadd, 1) := by decide +kernel
theorem dL_law_239 : decode cL_law 239 = .ok (.iaload, 1) := by decide +kernel
theorem dL_law_240 : decode cL_law 240 = .ok (.aload_n 3, 1) := by decide +kernel
theorem dL_law_241 : decode cL_law 241 = .ok (.invokestatic 56, 3) := by decide +kernel
theorem dL_law_244 : decode cL_law 244 = .ok (.istore 5, 2) := by decide +kernel
theorem dL_law_246 : decode cL_law 246 = .ok (.aload_n 2, 1) := by decide +kernel
theorem dL_law_247 : decode cL_law 247 = .ok (.aload_n 0, 1) := by decide +kernel
theorem dL_law_248 : decode cL_law 248 = .ok (.iload 4, 2) := by decide +kernel
theorem dL_law_250 : decode cL_law 250 = .ok (.iconst 1, 1) := by decide +kernel
theorem dL_law_251 : decode cL_law 251 = .ok (.iadd, 1) := by decide +kernel
theorem dL_law_252 : decode cL_law 252 = .ok (.iaload, 1) := by decide +kernel
theorem dL_law_253 : decode cL_law 253 = .ok (.invokevirtual 58, 3) := by decide +kernel
theorem dL_law_256 : decode cL_law 256 = .ok (.istore 6, 2) := by decide +kernel
theorem dL_law_258 : decode cL_law 258 = .ok (.aload_n 2, 1) := by decide +kernel
theorem dL_law_259 : decode cL_law 259 = .ok (.invokevirtual 52, 3) := by decide +kernel
theorem dL_law_262 : decode cL_law 262 = .ok (.iload 5, 2) := by decide +kernel
theorem dL_law_264 : decode cL_law 264 = .ok (.if_icmp .eq 5, 3) := by decide +kernel
theorem dL_law_269 : decode cL_law 269 = .ok (.iload 5, 2) := by decide +kernel
theorem dL_law_271 : decode cL_law 271 = .ok (.ifCond .ne 15, 3) := by decide +kernel
theorem dL_law_274 : decode cL_law 274 = .ok (.aload_n 3, 1) := by decide +kernel
theorem dL_law_275 : decode cL_law 275 = .ok (.iconst 0, 1) := by decide +kernel
theorem dL_law_276 : decode cL_law 276 = .ok (.laload, 1) := by decide +kernel
theorem dL_law_277 : decode cL_law 277 = .ok (.iload 6, 2) := by decide +kernel
theorem dL_law_279 : decode cL_law 279 = .ok (.i2l, 1) := by decide +kernel
theorem dL_law_280 : decode cL_law 280 = .ok (.lcmp, 1) := by decide +kernel
theorem dL_law_281 : decode cL_law 281 = .ok (.ifCond .eq 5, 3) := by decide +kernel
theorem dL_law_286 : decode cL_law 286 = .ok (.goto 423, 3) := by decide +kernel
theorem dL_law_289 : decode cL_law 289 = .ok (.aload_n 1, 1) := by decide +kernel
theorem dL_law_290 : decode cL_law 290 = .ok (.aload_n 0, 1) := by decide +kernel
theorem dL_law_291 : decode cL_law 291 = .ok (.iload 4, 2) := by decide +kernel
theorem dL_law_293 : decode cL_law 293 = .ok (.iconst 1, 1) := by decide +kernel
theorem dL_law_294 : decode cL_law 294 = .ok (.iadd, 1) := by decide +kernel
theorem dL_law_295 : decode cL_law 295 = .ok (.iaload, 1) := by decide +kernel
theorem dL_law_296 : decode cL_law 296 = .ok (.aload_n 3, 1) := by decide +kernel
theorem dL_law_297 : decode cL_law 297 = .ok (.invokestatic 59, 3) := by decide +kernel
theorem dL_law_300 : decode cL_law 300 = .ok (.istore 5, 2) := by decide +kernel
theorem dL_law_302 : decode cL_law 302 = .ok (.aload_n 2, 1) := by decide +kernel
theorem dL_law_303 : decode cL_law 303 = .ok (.aload_n 0, 1) := by decide +kernel
theorem dL_law_304 : decode cL_law 304 = .ok (.iload 4, 2) := by decide +kernel
theorem dL_law_306 : decode cL_law 306 = .ok (.iconst 1, 1) := by decide +kernel
theorem dL_law_307 : decode cL_law 307 = .ok (.iadd, 1) := by decide +kernel
theorem dL_law_308 : decode cL_law 308 = .ok (.iaload, 1) := by decide +kernel
theorem dL_law_309 : decode cL_law 309 = .ok (.invokevirtual 61, 3) := by decide +kernel
theorem dL_law_312 : decode cL_law 312 = .ok (.istore 6, 2) := by decide +kernel
theorem dL_law_314 : decode cL_law 314 = .ok (.aload_n 2, 1) := by decide +kernel
theorem dL_law_315 : decode cL_law 315 = .ok (.invokevirtual 52, 3) := by decide +kernel
theorem dL_law_318 : decode cL_law 318 = .ok (.iload 5, 2) := by decide +kernel
theorem dL_law_320 : decode cL_law 320 = .ok (.if_icmp .eq 5, 3) := by decide +kernel
theorem dL_law_325 : decode cL_law 325 = .ok (.iload 5, 2) := by decide +kernel
theorem dL_law_327 : decode cL_law 327 = .ok (.ifCond .ne 15, 3) := by decide +kernel
theorem dL_law_330 : decode cL_law 330 = .ok (.aload_n 3, 1) := by decide +kernel
theorem dL_law_331 : decode cL_law 331 = .ok (.iconst 0, 1) := by decide +kernel
theorem dL_law_332 : decode cL_law 332 = .ok (.laload, 1) := by decide +kernel
theorem dL_law_333 : decode cL_law 333 = .ok (.iload 6, 2) := by decide +kernel
theorem dL_law_335 : decode cL_law 335 = .ok (.i2l, 1) := by decide +kernel
theorem dL_law_336 : decode cL_law 336 = .ok (.lcmp, 1) := by decide +kernel
theorem dL_law_337 : decode cL_law 337 = .ok (.ifCond .eq 5, 3) := by decide +kernel
theorem dL_law_342 : decode cL_law 342 = .ok (.goto 367, 3) := by decide +kernel
theorem dL_law_345 : decode cL_law 345 = .ok (.aload_n 1, 1) := by decide +kernel
theorem dL_law_346 : decode cL_law 346 = .ok (.aload_n 0, 1) := by decide +kernel
theorem dL_law_347 : decode cL_law 347 = .ok (.iload 4, 2) := by decide +kernel
theorem dL_law_349 : decode cL_law 349 = .ok (.iconst 1, 1) := by decide +kernel
theorem dL_law_350 : decode cL_law 350 = .ok (.iadd, 1) := by decide +kernel
theorem dL_law_351 : decode cL_law 351 = .ok (.iaload, 1) := by decide +kernel
theorem dL_law_352 : decode cL_law 352 = .ok (.aload_n 0, 1) := by decide +kernel
theorem dL_law_353 : decode cL_law 353 = .ok (.iload 4, 2) := by decide +kernel
theorem dL_law_355 : decode cL_law 355 = .ok (.iconst 2, 1) := by decide +kernel
theorem dL_law_356 : decode cL_law 356 = .ok (.iadd, 1) := by decide +kernel
theorem dL_law_357 : decode cL_law 357 = .ok (.iaload, 1) := by decide +kernel
theorem dL_law_358 : decode cL_law 358 = .ok (.aload_n 3, 1) := by decide +kernel
theorem dL_law_359 : decode cL_law 359 = .ok (.invokestatic 62, 3) := by decide +kernel
theorem dL_law_362 : decode cL_law 362 = .ok (.istore 5, 2) := by decide +kernel
theorem dL_law_364 : decode cL_law 364 = .ok (.aload_n 2, 1) := by decide +kernel
theorem dL_law_365 : decode cL_law 365 = .ok (.aload_n 0, 1) := by decide +kernel
theorem dL_law_366 : decode cL_law 366 = .ok (.iload 4, 2) := by decide +kernel
theorem dL_law_368 : decode cL_law 368 = .ok (.iconst 1, 1) := by decide +kernel
theorem dL_law_369 : decode cL_law 369 = .ok (.iadd, 1) := by decide +kernel
theorem dL_law_370 : decode cL_law 370 = .ok (.iaload, 1) := by decide +kernel
theorem dL_law_371 : decode cL_law 371 = .ok (.aload_n 0, 1) := by decide +kernel
theorem dL_law_372 : decode cL_law 372 = .ok (.iload 4, 2) := by decide +kernel
theorem dL_law_374 : decode cL_law 374 = .ok (.iconst 2, 1) := by decide +kernel
theorem dL_law_375 : decode cL_law 375 = .ok (.iadd, 1) := by decide +kernel
theorem dL_law_376 : decode cL_law 376 = .ok (.iaload, 1) := by decide +kernel
theorem dL_law_377 : decode cL_law 377 = .ok (.invokevirtual 65, 3) := by decide +kernel
theorem dL_law_380 : decode cL_law 380 = .ok (.istore 6, 2) := by decide +kernel
theorem dL_law_382 : decode cL_law 382 = .ok (.aload_n 2, 1) := by decide +kernel
theorem dL_law_383 : decode cL_law 383 = .ok (.invokevirtual 52, 3) := by decide +kernel
theorem dL_law_386 : decode cL_law 386 = .ok (.iload 5, 2) := by decide +kernel
theorem dL_law_388 : decode cL_law 388 = .ok (.if_icmp .eq 5, 3) := by decide +kernel
theorem dL_law_393 : decode cL_law 393 = .ok (.iload 5, 2) := by decide +kernel
theorem dL_law_395 : decode cL_law 395 = .ok (.ifCond .ne 15, 3) := by decide +kernel
theorem dL_law_410 : decode cL_law 410 = .ok (.goto 299, 3) := by decide +kernel
theorem dL_law_413 : decode cL_law 413 = .ok (.aload_n 1, 1) := by decide +kernel
theorem dL_law_414 : decode cL_law 414 = .ok (.aload_n 0, 1) := by decide +kernel
theorem dL_law_415 : decode cL_law 415 = .ok (.iload 4, 2) := by decide +kernel
theorem dL_law_417 : decode cL_law 417 = .ok (.iconst 1, 1) := by decide +kernel
theorem dL_law_418 : decode cL_law 418 = .ok (.iadd, 1) := by decide +kernel
theorem dL_law_419 : decode cL_law 419 = .ok (.iaload, 1) := by decide +kernel
theorem dL_law_420 : decode cL_law 420 = .ok (.aload_n 0, 1) := by decide +kernel
theorem dL_law_421 : decode cL_law 421 = .ok (.iload 4, 2) := by decide +kernel
theorem dL_law_423 : decode cL_law 423 = .ok (.iconst 2, 1) := by decide +kernel
theorem dL_law_424 : decode cL_law 424 = .ok (.iadd, 1) := by decide +kernel
theorem dL_law_425 : decode cL_law 425 = .ok (.iaload, 1) := by decide +kernel
theorem dL_law_426 : decode cL_law 426 = .ok (.aload_n 0, 1) := by decide +kernel
theorem dL_law_427 : decode cL_law 427 = .ok (.iload 4, 2) := by decide +kernel
theorem dL_law_429 : decode cL_law 429 = .ok (.iconst 3, 1) := by decide +kernel
theorem dL_law_430 : decode cL_law 430 = .ok (.iadd, 1) := by decide +kernel
theorem dL_law_431 : decode cL_law 431 = .ok (.iaload, 1) := by decide +kernel
theorem dL_law_432 : decode cL_law 432 = .ok (.ifCond .eq 7, 3) := by decide +kernel
theorem dL_law_435 : decode cL_law 435 = .ok (.iconst 1, 1) := by decide +kernel
theorem dL_law_436 : decode cL_law 436 = .ok (.goto 4, 3) := by decide +kernel
theorem dL_law_439 : decode cL_law 439 = .ok (.iconst 0, 1) := by decide +kernel
theorem dL_law_440 : decode cL_law 440 = .ok (.aload_n 3, 1) := by decide +kernel
theorem dL_law_441 : decode cL_law 441 = .ok (.invokestatic 66, 3) := by decide +kernel
theorem dL_law_444 : decode cL_law 444 = .ok (.istore 5, 2) := by decide +kernel
theorem dL_law_446 : decode cL_law 446 = .ok (.aload_n 2, 1) := by decide +kernel
theorem dL_law_447 : decode cL_law 447 = .ok (.aload_n 0, 1) := by decide +kernel
theorem dL_law_448 : decode cL_law 448 = .ok (.iload 4, 2) := by decide +kernel
theorem dL_law_450 : decode cL_law 450 = .ok (.iconst 1, 1) := by decide +kernel
theorem dL_law_451 : decode cL_law 451 = .ok (.iadd, 1) := by decide +kernel
theorem dL_law_452 : decode cL_law 452 = .ok (.iaload, 1) := by decide +kernel
theorem dL_law_453 : decode cL_law 453 = .ok (.aload_n 0, 1) := by decide +kernel
theorem dL_law_454 : decode cL_law 454 = .ok (.iload 4, 2) := by decide +kernel
theorem dL_law_456 : decode cL_law 456 = .ok (.iconst 2, 1) := by decide +kernel
theorem dL_law_457 : decode cL_law 457 = .ok (.iadd, 1) := by decide +kernel
theorem dL_law_458 : decode cL_law 458 = .ok (.iaload, 1) := by decide +kernel
theorem dL_law_459 : decode cL_law 459 = .ok (.aload_n 0, 1) := by decide +kernel
theorem dL_law_460 : decode cL_law 460 = .ok (.iload 4, 2) := by decide +kernel
theorem dL_law_462 : decode cL_law 462 = .ok (.iconst 3, 1) := by decide +kernel
theorem dL_law_463 : decode cL_law 463 = .ok (.iadd, 1) := by decide +kernel
theorem dL_law_464 : decode cL_law 464 = .ok (.iaload, 1) := by decide +kernel
theorem dL_law_465 : decode cL_law 465 = .ok (.ifCond .eq 7, 3) := by decide +kernel
theorem dL_law_468 : decode cL_law 468 = .ok (.iconst 1, 1) := by decide +kernel
theorem dL_law_469 : decode cL_law 469 = .ok (.goto 4, 3) := by decide +kernel
theorem dL_law_472 : decode cL_law 472 = .ok (.iconst 0, 1) := by decide +kernel
theorem dL_law_473 : decode cL_law 473 = .ok (.invokevirtual 69, 3) := by decide +kernel
theorem dL_law_476 : decode cL_law 476 = .ok (.istore 6, 2) := by decide +kernel
theorem dL_law_478 : decode cL_law 478 = .ok (.aload_n 2, 1) := by decide +kernel
theorem dL_law_479 : decode cL_law 479 = .ok (.invokevirtual 52, 3) := by decide +kernel
theorem dL_law_482 : decode cL_law 482 = .ok (.iload 5, 2) := by decide +kernel
theorem dL_law_484 : decode cL_law 484 = .ok (.if_icmp .eq 5, 3) := by decide +kernel
theorem dL_law_489 : decode cL_law 489 = .ok (.iload 5, 2) := by decide +kernel
theorem dL_law_491 : decode cL_law 491 = .ok (.ifCond .ne 15, 3) := by decide +kernel
theorem dL_law_506 : decode cL_law 506 = .ok (.goto 203, 3) := by decide +kernel
theorem dL_law_509 : decode cL_law 509 = .ok (.aload_n 1, 1) := by decide +kernel
theorem dL_law_510 : decode cL_law 510 = .ok (.aload_n 0, 1) := by decide +kernel
theorem dL_law_511 : decode cL_law 511 = .ok (.iload 4, 2) := by decide +kernel
theorem dL_law_513 : decode cL_law 513 = .ok (.iconst 1, 1) := by decide +kernel
theorem dL_law_514 : decode cL_law 514 = .ok (.iadd, 1) := by decide +kernel
theorem dL_law_515 : decode cL_law 515 = .ok (.iaload, 1) := by decide +kernel
theorem dL_law_516 : decode cL_law 516 = .ok (.invokevirtual 70, 3) := by decide +kernel
theorem dL_law_519 : decode cL_law 519 = .ok (.aload_n 2, 1) := by decide +kernel
theorem dL_law_520 : decode cL_law 520 = .ok (.aload_n 0, 1) := by decide +kernel
theorem dL_law_521 : decode cL_law 521 = .ok (.iload 4, 2) := by decide +kernel
theorem dL_law_523 : decode cL_law 523 = .ok (.iconst 1, 1) := by decide +kernel
theorem dL_law_524 : decode cL_law 524 = .ok (.iadd, 1) := by decide +kernel
theorem dL_law_525 : decode cL_law 525 = .ok (.iaload, 1) := by decide +kernel
theorem dL_law_526 : decode cL_law 526 = .ok (.invokevirtual 73, 3) := by decide +kernel
theorem dL_law_529 : decode cL_law 529 = .ok (.if_icmp .eq 180, 3) := by decide +kernel
theorem dL_law_534 : decode cL_law 534 = .ok (.aload_n 1, 1) := by decide +kernel
theorem dL_law_535 : decode cL_law 535 = .ok (.invokevirtual 74, 3) := by decide +kernel
theorem dL_law_538 : decode cL_law 538 = .ok (.aload_n 2, 1) := by decide +kernel
theorem dL_law_539 : decode cL_law 539 = .ok (.invokevirtual 77, 3) := by decide +kernel
theorem dL_law_542 : decode cL_law 542 = .ok (.if_icmp .eq 167, 3) := by decide +kernel
theorem dL_law_547 : decode cL_law 547 = .ok (.aload_n 1, 1) := by decide +kernel
theorem dL_law_548 : decode cL_law 548 = .ok (.aload_n 0, 1) := by decide +kernel
theorem dL_law_549 : decode cL_law 549 = .ok (.iload 4, 2) := by decide +kernel
theorem dL_law_551 : decode cL_law 551 = .ok (.iconst 1, 1) := by decide +kernel
theorem dL_law_552 : decode cL_law 552 = .ok (.iadd, 1) := by decide +kernel
theorem dL_law_553 : decode cL_law 553 = .ok (.iaload, 1) := by decide +kernel
theorem dL_law_554 : decode cL_law 554 = .ok (.aload_n 0, 1) := by decide +kernel
theorem dL_law_555 : decode cL_law 555 = .ok (.iload 4, 2) := by decide +kernel
theorem dL_law_557 : decode cL_law 557 = .ok (.iconst 2, 1) := by decide +kernel
theorem dL_law_558 : decode cL_law 558 = .ok (.iadd, 1) := by decide +kernel
theorem dL_law_559 : decode cL_law 559 = .ok (.iaload, 1) := by decide +kernel
theorem dL_law_560 : decode cL_law 560 = .ok (.invokevirtual 78, 3) := by decide +kernel
theorem dL_law_563 : decode cL_law 563 = .ok (.aload_n 2, 1) := by decide +kernel
theorem dL_law_564 : decode cL_law 564 = .ok (.aload_n 0, 1) := by decide +kernel
theorem dL_law_565 : decode cL_law 565 = .ok (.iload 4, 2) := by decide +kernel
theorem dL_law_567 : decode cL_law 567 = .ok (.iconst 1, 1) := by decide +kernel
theorem dL_law_568 : decode cL_law 568 = .ok (.iadd, 1) := by decide +kernel
theorem dL_law_569 : decode cL_law 569 = .ok (.iaload, 1) := by decide +kernel
theorem dL_law_570 : decode cL_law 570 = .ok (.aload_n 0, 1) := by decide +kernel
theorem dL_law_571 : decode cL_law 571 = .ok (.iload 4, 2) := by decide +kernel
theorem dL_law_573 : decode cL_law 573 = .ok (.iconst 2, 1) := by decide +kernel
theorem dL_law_574 : decode cL_law 574 = .ok (.iadd, 1) := by decide +kernel
theorem dL_law_575 : decode cL_law 575 = .ok (.iaload, 1) := by decide +kernel
theorem dL_law_576 : decode cL_law 576 = .ok (.invokevirtual 81, 3) := by decide +kernel
theorem dL_law_579 : decode cL_law 579 = .ok (.if_icmp .eq 130, 3) := by decide +kernel
theorem dL_law_584 : decode cL_law 584 = .ok (.aload_n 1, 1) := by decide +kernel
theorem dL_law_585 : decode cL_law 585 = .ok (.aload_n 0, 1) := by decide +kernel
theorem dL_law_586 : decode cL_law 586 = .ok (.iload 4, 2) := by decide +kernel
theorem dL_law_588 : decode cL_law 588 = .ok (.iconst 1, 1) := by decide +kernel
theorem dL_law_589 : decode cL_law 589 = .ok (.iadd, 1) := by decide +kernel
theorem dL_law_590 : decode cL_law 590 = .ok (.iaload, 1) := by decide +kernel
theorem dL_law_591 : decode cL_law 591 = .ok (.aload_n 3, 1) := by decide +kernel
theorem dL_law_592 : decode cL_law 592 = .ok (.invokestatic 82, 3) := by decide +kernel
theorem dL_law_595 : decode cL_law 595 = .ok (.istore 5, 2) := by decide +kernel
theorem dL_law_597 : decode cL_law 597 = .ok (.aload_n 2, 1) := by decide +kernel
theorem dL_law_598 : decode cL_law 598 = .ok (.aload_n 0, 1) := by decide +kernel
theorem dL_law_599 : decode cL_law 599 = .ok (.iload 4, 2) := by decide +kernel
theorem dL_law_601 : decode cL_law 601 = .ok (.iconst 1, 1) := by decide +kernel
theorem dL_law_602 : decode cL_law 602 = .ok (.iadd, 1) := by decide +kernel
theorem dL_law_603 : decode cL_law 603 = .ok (.iaload, 1) := by decide +kernel
theorem dL_law_604 : decode cL_law 604 = .ok (.invokevirtual 84, 3) := by decide +kernel
theorem dL_law_607 : decode cL_law 607 = .ok (.istore 6, 2) := by decide +kernel
theorem dL_law_609 : decode cL_law 609 = .ok (.aload_n 2, 1) := by decide +kernel
theorem dL_law_610 : decode cL_law 610 = .ok (.invokevirtual 52, 3) := by decide +kernel
theorem dL_law_613 : decode cL_law 613 = .ok (.iload 5, 2) := by decide +kernel
theorem dL_law_615 : decode cL_law 615 = .ok (.if_icmp .eq 5, 3) := by decide +kernel
theorem dL_law_620 : decode cL_law 620 = .ok (.iload 5, 2) := by decide +kernel
theorem dL_law_622 : decode cL_law 622 = .ok (.ifCond .ne 15, 3) := by decide +kernel
theorem dL_law_625 : decode cL_law 625 = .ok (.aload_n 3, 1) := by decide +kernel
theorem dL_law_626 : decode cL_law 626 = .ok (.iconst 0, 1) := by decide +kernel
theorem dL_law_627 : decode cL_law 627 = .ok (.laload, 1) := by decide +kernel
theorem dL_law_628 : decode cL_law 628 = .ok (.iload 6, 2) := by decide +kernel
theorem dL_law_630 : decode cL_law 630 = .ok (.i2l, 1) := by decide +kernel
theorem dL_law_631 : decode cL_law 631 = .ok (.lcmp, 1) := by decide +kernel
theorem dL_law_632 : decode cL_law 632 = .ok (.ifCond .eq 5, 3) := by decide +kernel
theorem dL_law_637 : decode cL_law 637 = .ok (.goto 72, 3) := by decide +kernel
theorem dL_law_640 : decode cL_law 640 = .ok (.aload_n 1, 1) := by decide +kernel
theorem dL_law_641 : decode cL_law 641 = .ok (.invokevirtual 85, 3) := by decide +kernel
theorem dL_law_644 : decode cL_law 644 = .ok (.aload_n 2, 1) := by decide +kernel
theorem dL_law_645 : decode cL_law 645 = .ok (.invokevirtual 88, 3) := by decide +kernel
theorem dL_law_648 : decode cL_law 648 = .ok (.if_icmp .eq 61, 3) := by decide +kernel
theorem dL_law_653 : decode cL_law 653 = .ok (.aload_n 1, 1) := by decide +kernel
theorem dL_law_654 : decode cL_law 654 = .ok (.aload_n 0, 1) := by decide +kernel
theorem dL_law_655 : decode cL_law 655 = .ok (.iload 4, 2) := by decide +kernel
theorem dL_law_657 : decode cL_law 657 = .ok (.iconst 1, 1) := by decide +kernel
theorem dL_law_658 : decode cL_law 658 = .ok (.iadd, 1) := by decide +kernel
theorem dL_law_659 : decode cL_law 659 = .ok (.iaload, 1) := by decide +kernel
theorem dL_law_660 : decode cL_law 660 = .ok (.aload_n 3, 1) := by decide +kernel
theorem dL_law_661 : decode cL_law 661 = .ok (.invokestatic 89, 3) := by decide +kernel
theorem dL_law_664 : decode cL_law 664 = .ok (.istore 5, 2) := by decide +kernel
theorem dL_law_666 : decode cL_law 666 = .ok (.aload_n 2, 1) := by decide +kernel
theorem dL_law_667 : decode cL_law 667 = .ok (.aload_n 0, 1) := by decide +kernel
theorem dL_law_668 : decode cL_law 668 = .ok (.iload 4, 2) := by decide +kernel
theorem dL_law_670 : decode cL_law 670 = .ok (.iconst 1, 1) := by decide +kernel
theorem dL_law_671 : decode cL_law 671 = .ok (.iadd, 1) := by decide +kernel
theorem dL_law_672 : decode cL_law 672 = .ok (.iaload, 1) := by decide +kernel
theorem dL_law_673 : decode cL_law 673 = .ok (.invokevirtual 91, 3) := by decide +kernel
theorem dL_law_676 : decode cL_law 676 = .ok (.istore 6, 2) := by decide +kernel
theorem dL_law_678 : decode cL_law 678 = .ok (.aload_n 2, 1) := by decide +kernel
theorem dL_law_679 : decode cL_law 679 = .ok (.invokevirtual 52, 3) := by decide +kernel
theorem dL_law_682 : decode cL_law 682 = .ok (.iload 5, 2) := by decide +kernel
theorem dL_law_684 : decode cL_law 684 = .ok (.if_icmp .eq 5, 3) := by decide +kernel
theorem dL_law_689 : decode cL_law 689 = .ok (.iload 5, 2) := by decide +kernel
theorem dL_law_691 : decode cL_law 691 = .ok (.ifCond .ne 15, 3) := by decide +kernel
theorem dL_law_706 : decode cL_law 706 = .ok (.goto 3, 3) := by decide +kernel
theorem dL_law_709 : decode cL_law 709 = .ok (.iinc 4 6, 3) := by decide +kernel
theorem dL_law_712 : decode cL_law 712 = .ok (.goto (-689), 3) := by decide +kernel
theorem dL_law_715 : decode cL_law 715 = .ok (.iconst 1, 1) := by decide +kernel
theorem dL_law_716 : decode cL_law 716 = .ok (.ireturn, 1) := by decide +kernel
