/-! ===== BEGIN printed: names, fields, word lists, decode rows ===== -/
def RX0 : String := "PieceWays$Bytes"
def TX0 : u_T := fun k => match k with
  | 0 => ("PieceWays$Bytes", "held", "[B", true)
  | _ => ("PieceWays$Bytes", "used", "I", false)
def tyX0 : Nat → FieldType := fun k => match k with
  | 0 => .array .byte
  | _ => .int
abbrev wsX00 : List Cond := u_ws RX0 TX0 2
theorem nmX0 : ∀ a, a < 2 → ∀ b, b < 2 → a ≠ b → (TX0 a).2.1 ≠ (TX0 b).2.1 := by decide +kernel
theorem tyX0_ok : ∀ k, k < 2 → parseFieldDescriptor (TX0 k).2.2.1 = some (tyX0 k) := by decide +kernel
abbrev cX0_init : ByteArray := prog_2_method_1_code
def yX0_init : MethodName := ⟨RX0, "<init>", "()V"⟩
abbrev cX0_length : ByteArray := prog_2_method_2_code
def yX0_length : MethodName := ⟨RX0, "length", "()I"⟩
abbrev cX0_at : ByteArray := prog_2_method_3_code
def yX0_at : MethodName := ⟨RX0, "at", "(I)I"⟩
abbrev cX0_empty : ByteArray := prog_2_method_4_code
def yX0_empty : MethodName := ⟨RX0, "empty", "()V"⟩
abbrev cX0_add : ByteArray := prog_2_method_5_code
def yX0_add : MethodName := ⟨RX0, "add", "(I)V"⟩
abbrev cX0_addTwo : ByteArray := prog_2_method_6_code
def yX0_addTwo : MethodName := ⟨RX0, "addTwo", "(I)V"⟩
abbrev cX0_addFrom : ByteArray := prog_2_method_7_code
def yX0_addFrom : MethodName := ⟨RX0, "addFrom", "(LPieceWays$Bytes;II)V"⟩
def RX1 : String := "PieceWays$Pieces"
def TX1 : u_T := fun k => match k with
  | 0 => ("PieceWays$Pieces", "kinds", "[I", true)
  | 1 => ("PieceWays$Pieces", "begins", "[I", true)
  | 2 => ("PieceWays$Pieces", "lengths", "[I", true)
  | _ => ("PieceWays$Pieces", "used", "I", false)
def tyX1 : Nat → FieldType := fun k => match k with
  | 0 => .array .int
  | 1 => .array .int
  | 2 => .array .int
  | _ => .int
abbrev wsX10 : List Cond := u_ws RX1 TX1 4
theorem nmX1 : ∀ a, a < 4 → ∀ b, b < 4 → a ≠ b → (TX1 a).2.1 ≠ (TX1 b).2.1 := by decide +kernel
theorem tyX1_ok : ∀ k, k < 4 → parseFieldDescriptor (TX1 k).2.2.1 = some (tyX1 k) := by decide +kernel
abbrev cX1_init : ByteArray := prog_3_method_1_code
def yX1_init : MethodName := ⟨RX1, "<init>", "()V"⟩
abbrev cX1_number : ByteArray := prog_3_method_2_code
def yX1_number : MethodName := ⟨RX1, "number", "()I"⟩
abbrev cX1_kind : ByteArray := prog_3_method_3_code
def yX1_kind : MethodName := ⟨RX1, "kind", "(I)I"⟩
abbrev cX1_begin : ByteArray := prog_3_method_4_code
def yX1_begin : MethodName := ⟨RX1, "begin", "(I)I"⟩
abbrev cX1_length : ByteArray := prog_3_method_5_code
def yX1_length : MethodName := ⟨RX1, "length", "(I)I"⟩
abbrev cX1_empty : ByteArray := prog_3_method_6_code
def yX1_empty : MethodName := ⟨RX1, "empty", "()V"⟩
abbrev cX1_add : ByteArray := prog_3_method_7_code
def yX1_add : MethodName := ⟨RX1, "add", "(III)V"⟩
abbrev cX1_addPlainByte : ByteArray := prog_3_method_8_code
def yX1_addPlainByte : MethodName := ⟨RX1, "addPlainByte", "(I)V"⟩
abbrev cX1_copiedEnd : ByteArray := prog_3_method_9_code
def yX1_copiedEnd : MethodName := ⟨RX1, "copiedEnd", "()I"⟩
abbrev cX1_isThere : ByteArray := prog_3_method_10_code
def yX1_isThere : MethodName := ⟨RX1, "isThere", "(I)Z"⟩
def RX2 : String := "PieceWays"
def TX2 : u_T := fun k => match k with
  | 0 => ("PieceWays", "base", "LPieceWays$Bytes;", true)
  | 1 => ("PieceWays", "target", "LPieceWays$Bytes;", true)
  | 2 => ("PieceWays", "result", "LPieceWays$Bytes;", true)
  | 3 => ("PieceWays", "pieces", "LPieceWays$Pieces;", true)
  | 4 => ("PieceWays", "targetThen", "LPieceWays$Bytes;", true)
  | _ => ("PieceWays", "row", "LPieceWays$Bytes;", true)
def tyX2 : Nat → FieldType := fun k => match k with
  | 0 => .object "PieceWays$Bytes"
  | 1 => .object "PieceWays$Bytes"
  | 2 => .object "PieceWays$Bytes"
  | 3 => .object "PieceWays$Pieces"
  | 4 => .object "PieceWays$Bytes"
  | _ => .object "PieceWays$Bytes"
abbrev wsX20 : List Cond := u_ws RX2 TX2 6
theorem nmX2 : ∀ a, a < 6 → ∀ b, b < 6 → a ≠ b → (TX2 a).2.1 ≠ (TX2 b).2.1 := by decide +kernel
theorem tyX2_ok : ∀ k, k < 6 → parseFieldDescriptor (TX2 k).2.2.1 = some (tyX2 k) := by decide +kernel
abbrev cX2_init : ByteArray := prog_1_method_1_code
def yX2_init : MethodName := ⟨RX2, "<init>", "()V"⟩
abbrev cX2_put : ByteArray := prog_1_method_2_code
def yX2_put : MethodName := ⟨RX2, "put", "(ZJI)Z"⟩
abbrev cX2_clear : ByteArray := prog_1_method_3_code
def yX2_clear : MethodName := ⟨RX2, "clear", "(Z)V"⟩
abbrev cX2_make : ByteArray := prog_1_method_4_code
def yX2_make : MethodName := ⟨RX2, "make", "()I"⟩
abbrev cX2_piece : ByteArray := prog_1_method_5_code
def yX2_piece : MethodName := ⟨RX2, "piece", "(II)I"⟩
abbrev cX2_size : ByteArray := prog_1_method_6_code
def yX2_size : MethodName := ⟨RX2, "size", "()I"⟩
abbrev cX2_way : ByteArray := prog_1_method_7_code
def yX2_way : MethodName := ⟨RX2, "way", "(I)I"⟩
abbrev cX2_go : ByteArray := prog_1_method_8_code
def yX2_go : MethodName := ⟨RX2, "go", "()I"⟩
abbrev cX2_result : ByteArray := prog_1_method_9_code
def yX2_result : MethodName := ⟨RX2, "result", "(I)I"⟩
abbrev cX2_count : ByteArray := prog_1_method_10_code
def yX2_count : MethodName := ⟨RX2, "count", "(I)I"⟩
abbrev cX2_findPieces : ByteArray := prog_1_method_11_code
def yX2_findPieces : MethodName := ⟨RX2, "findPieces", "()V"⟩
abbrev cX2_longestBlock : ByteArray := prog_1_method_12_code
def yX2_longestBlock : MethodName := ⟨RX2, "longestBlock", "(I)I"⟩
abbrev cX2_alike : ByteArray := prog_1_method_13_code
def yX2_alike : MethodName := ⟨RX2, "alike", "(II)I"⟩
abbrev cX2_writeRow : ByteArray := prog_1_method_14_code
def yX2_writeRow : MethodName := ⟨RX2, "writeRow", "()V"⟩
def RJ9 : String := "java/lang/Math"
def TJ9 : u_T := fun k => match k with
  | _ => ("", "", "", false)
def tyJ9 : Nat → FieldType := fun k => match k with
  | _ => .int
abbrev wsJ90 : List Cond := u_ws RJ9 TJ9 0
theorem nmJ9 : ∀ a, a < 0 → ∀ b, b < 0 → a ≠ b → (TJ9 a).2.1 ≠ (TJ9 b).2.1 := by decide +kernel
theorem tyJ9_ok : ∀ k, k < 0 → parseFieldDescriptor (TJ9 k).2.2.1 = some (tyJ9 k) := by decide +kernel
abbrev cJ9_max_7cf53 : ByteArray := prog_8_method_65_code
def yJ9_max_7cf53 : MethodName := ⟨RJ9, "max", "(II)I"⟩
abbrev cJ9_min_7cf53 : ByteArray := prog_8_method_69_code
def yJ9_min_7cf53 : MethodName := ⟨RJ9, "min", "(II)I"⟩
def RJ0 : String := "java/lang/String"
def TJ0 : u_T := fun k => match k with
  | _ => ("", "", "", false)
def tyJ0 : Nat → FieldType := fun k => match k with
  | _ => .int
abbrev wsJ00 : List Cond := u_ws RJ0 TJ0 0
theorem nmJ0 : ∀ a, a < 0 → ∀ b, b < 0 → a ≠ b → (TJ0 a).2.1 ≠ (TJ0 b).2.1 := by decide +kernel
theorem tyJ0_ok : ∀ k, k < 0 → parseFieldDescriptor (TJ0 k).2.2.1 = some (tyJ0 k) := by decide +kernel
def RL : String := "PieceWaysLaw"
abbrev cL_go : ByteArray := method_3_code
def yL_go : MethodName := ⟨RL, "go", "(LPieceWays;[J)I"⟩
abbrev cL_law : ByteArray := code
def yL_law : MethodName := ⟨RL, "law", "([I)Z"⟩
def wsX0_init : List Cond := .code yX0_init cX0_init 1 none :: ([.methodLink RX0 3 objectInit, .instanceMethod objectInit, .code objectInit ⟨#[0xb1]⟩ 1 none, .arrayClass .byte, .fieldLink RX0 9 "PieceWays$Bytes" "held" "[B", .fieldLink RX0 15 "PieceWays$Bytes" "used" "I"] ++ wsX00)
def wsX0_length : List Cond := .code yX0_length cX0_length 1 (some .int) :: ([.fieldLink RX0 15 "PieceWays$Bytes" "used" "I"] ++ wsX00)
def wsX0_at : List Cond := .code yX0_at cX0_at 2 (some .int) :: ([.fieldLink RX0 15 "PieceWays$Bytes" "used" "I", .fieldLink RX0 9 "PieceWays$Bytes" "held" "[B"] ++ wsX00)
def wsX0_empty : List Cond := .code yX0_empty cX0_empty 1 none :: ([.fieldLink RX0 15 "PieceWays$Bytes" "used" "I"] ++ wsX00)
def wsX0_add : List Cond := .code yX0_add cX0_add 2 none :: ([.fieldLink RX0 15 "PieceWays$Bytes" "used" "I", .fieldLink RX0 9 "PieceWays$Bytes" "held" "[B"] ++ wsX00)
def wsX0_addTwo : List Cond := .code yX0_addTwo cX0_addTwo 2 none :: ([.methodLink RX0 19 yX0_add, .instanceMethod yX0_add, .selects RX0 yX0_add yX0_add, .initialized RX0, .code yX0_add cX0_add 2 none, .fieldLink RX0 15 "PieceWays$Bytes" "used" "I", .fieldLink RX0 9 "PieceWays$Bytes" "held" "[B"] ++ wsX00)
def wsX0_addFrom : List Cond := .code yX0_addFrom cX0_addFrom 5 none :: ([.methodLink RX0 23 yX0_at, .instanceMethod yX0_at, .selects RX0 yX0_at yX0_at, .initialized RX0, .code yX0_at cX0_at 2 (some .int), .fieldLink RX0 15 "PieceWays$Bytes" "used" "I", .fieldLink RX0 9 "PieceWays$Bytes" "held" "[B", .methodLink RX0 19 yX0_add, .instanceMethod yX0_add, .selects RX0 yX0_add yX0_add, .code yX0_add cX0_add 2 none] ++ wsX00)
def wsX1_init : List Cond := .code yX1_init cX1_init 1 none :: ([.methodLink RX1 3 objectInit, .instanceMethod objectInit, .code objectInit ⟨#[0xb1]⟩ 1 none, .arrayClass .int, .fieldLink RX1 9 "PieceWays$Pieces" "kinds" "[I", .fieldLink RX1 15 "PieceWays$Pieces" "begins" "[I", .fieldLink RX1 18 "PieceWays$Pieces" "lengths" "[I", .fieldLink RX1 21 "PieceWays$Pieces" "used" "I"] ++ wsX10)
def wsX1_number : List Cond := .code yX1_number cX1_number 1 (some .int) :: ([.fieldLink RX1 21 "PieceWays$Pieces" "used" "I"] ++ wsX10)
def wsX1_isThere : List Cond := .code yX1_isThere cX1_isThere 2 (some .boolean) :: ([.fieldLink RX1 21 "PieceWays$Pieces" "used" "I"] ++ wsX10)
def wsX1_kind : List Cond := .code yX1_kind cX1_kind 2 (some .int) :: ([.fieldLink RX1 9 "PieceWays$Pieces" "kinds" "[I", .methodLink RX1 25 yX1_isThere, .instanceMethod yX1_isThere, .selects RX1 yX1_isThere yX1_isThere, .initialized RX1, .code yX1_isThere cX1_isThere 2 (some .boolean), .fieldLink RX1 21 "PieceWays$Pieces" "used" "I"] ++ wsX10)
def wsX1_begin : List Cond := .code yX1_begin cX1_begin 2 (some .int) :: ([.fieldLink RX1 15 "PieceWays$Pieces" "begins" "[I", .methodLink RX1 25 yX1_isThere, .instanceMethod yX1_isThere, .selects RX1 yX1_isThere yX1_isThere, .initialized RX1, .code yX1_isThere cX1_isThere 2 (some .boolean), .fieldLink RX1 21 "PieceWays$Pieces" "used" "I"] ++ wsX10)
def wsX1_length : List Cond := .code yX1_length cX1_length 2 (some .int) :: ([.fieldLink RX1 18 "PieceWays$Pieces" "lengths" "[I", .methodLink RX1 25 yX1_isThere, .instanceMethod yX1_isThere, .selects RX1 yX1_isThere yX1_isThere, .initialized RX1, .code yX1_isThere cX1_isThere 2 (some .boolean), .fieldLink RX1 21 "PieceWays$Pieces" "used" "I"] ++ wsX10)
def wsX1_empty : List Cond := .code yX1_empty cX1_empty 1 none :: ([.fieldLink RX1 21 "PieceWays$Pieces" "used" "I"] ++ wsX10)
def wsX1_add : List Cond := .code yX1_add cX1_add 4 none :: ([.fieldLink RX1 21 "PieceWays$Pieces" "used" "I", .fieldLink RX1 9 "PieceWays$Pieces" "kinds" "[I", .fieldLink RX1 15 "PieceWays$Pieces" "begins" "[I", .fieldLink RX1 18 "PieceWays$Pieces" "lengths" "[I"] ++ wsX10)
def wsX1_addPlainByte : List Cond := .code yX1_addPlainByte cX1_addPlainByte 3 none :: ([.fieldLink RX1 21 "PieceWays$Pieces" "used" "I", .fieldLink RX1 9 "PieceWays$Pieces" "kinds" "[I", .fieldLink RX1 18 "PieceWays$Pieces" "lengths" "[I", .methodLink RX1 25 yX1_isThere, .instanceMethod yX1_isThere, .selects RX1 yX1_isThere yX1_isThere, .initialized RX1, .code yX1_isThere cX1_isThere 2 (some .boolean), .methodLink RX1 29 yX1_add, .instanceMethod yX1_add, .selects RX1 yX1_add yX1_add, .code yX1_add cX1_add 4 none, .fieldLink RX1 15 "PieceWays$Pieces" "begins" "[I"] ++ wsX10)
def wsX1_copiedEnd_r1 : List Cond := [Cond.fieldLink RX1 21 "PieceWays$Pieces" "used" "I", Cond.methodLink RX1 43 Lib.Math.max.name, Cond.static Lib.Math.max.name, Cond.initialized "java/lang/Math", Cond.code Lib.Math.max.name Lib.Math.max.code 2 (some .int), Cond.methodLink RX1 33 yX1_kind, Cond.instanceMethod yX1_kind, Cond.selects RX1 yX1_kind yX1_kind, Cond.initialized RX1, Cond.code yX1_kind cX1_kind 2 (some .int), Cond.fieldLink RX1 9 "PieceWays$Pieces" "kinds" "[I", Cond.methodLink RX1 25 yX1_isThere, Cond.instanceMethod yX1_isThere, Cond.selects RX1 yX1_isThere yX1_isThere, Cond.code yX1_isThere cX1_isThere 2 (some .boolean), Cond.methodLink RX1 37 yX1_begin, Cond.instanceMethod yX1_begin, Cond.selects RX1 yX1_begin yX1_begin, Cond.code yX1_begin cX1_begin 2 (some .int), Cond.fieldLink RX1 15 "PieceWays$Pieces" "begins" "[I", Cond.methodLink RX1 40 yX1_length, Cond.instanceMethod yX1_length, Cond.selects RX1 yX1_length yX1_length, Cond.code yX1_length cX1_length 2 (some .int)]
def wsX1_copiedEnd_r2 : List Cond := [Cond.fieldLink RX1 18 "PieceWays$Pieces" "lengths" "[I"]
def wsX1_copiedEnd : List Cond := .code yX1_copiedEnd cX1_copiedEnd 3 (some .int) :: ((wsX1_copiedEnd_r1 ++ wsX1_copiedEnd_r2) ++ wsX10)
def wsX2_init_r1 : List Cond := [Cond.methodLink RX2 1 objectInit, Cond.instanceMethod objectInit, Cond.code objectInit ⟨#[0xb1]⟩ 1 none, Cond.classLink RX2 7 RX0, Cond.instantiable RX0 2, Cond.initialized RX0, Cond.fieldLink RX2 10 "PieceWays" "base" "LPieceWays$Bytes;", Cond.fieldLink RX2 16 "PieceWays" "target" "LPieceWays$Bytes;", Cond.fieldLink RX2 19 "PieceWays" "result" "LPieceWays$Bytes;", Cond.classLink RX2 22 RX1, Cond.instantiable RX1 4, Cond.initialized RX1, Cond.fieldLink RX2 25 "PieceWays" "pieces" "LPieceWays$Pieces;", Cond.fieldLink RX2 29 "PieceWays" "targetThen" "LPieceWays$Bytes;", Cond.fieldLink RX2 32 "PieceWays" "row" "LPieceWays$Bytes;", Cond.instanceMethod yX0_init, Cond.code yX0_init cX0_init 1 none, Cond.methodLink RX0 3 objectInit, Cond.arrayClass .byte, Cond.fieldLink RX0 9 "PieceWays$Bytes" "held" "[B", Cond.fieldLink RX0 15 "PieceWays$Bytes" "used" "I", Cond.instanceMethod yX1_init, Cond.code yX1_init cX1_init 1 none, Cond.methodLink RX1 3 objectInit]
def wsX2_init_r2 : List Cond := [Cond.arrayClass .int, Cond.fieldLink RX1 9 "PieceWays$Pieces" "kinds" "[I", Cond.fieldLink RX1 15 "PieceWays$Pieces" "begins" "[I", Cond.fieldLink RX1 18 "PieceWays$Pieces" "lengths" "[I", Cond.fieldLink RX1 21 "PieceWays$Pieces" "used" "I"]
def wsX2_init : List Cond := .code yX2_init cX2_init 1 none :: ((wsX2_init_r1 ++ wsX2_init_r2) ++ wsX00 ++ wsX20 ++ wsX10)
def wsX2_put : List Cond := .code yX2_put cX2_put 7 (some .boolean) :: ([.fieldLink RX2 16 "PieceWays" "target" "LPieceWays$Bytes;", .fieldLink RX2 10 "PieceWays" "base" "LPieceWays$Bytes;", .methodLink RX2 35 yX0_length, .instanceMethod yX0_length, .selects RX0 yX0_length yX0_length, .initialized RX0, .code yX0_length cX0_length 1 (some .int), .fieldLink RX0 15 "PieceWays$Bytes" "used" "I", .methodLink RX2 39 yX0_add, .instanceMethod yX0_add, .selects RX0 yX0_add yX0_add, .code yX0_add cX0_add 2 none, .fieldLink RX0 9 "PieceWays$Bytes" "held" "[B"] ++ wsX20 ++ wsX00)
def wsX2_clear : List Cond := .code yX2_clear cX2_clear 3 none :: ([.fieldLink RX2 16 "PieceWays" "target" "LPieceWays$Bytes;", .fieldLink RX2 10 "PieceWays" "base" "LPieceWays$Bytes;", .methodLink RX2 43 yX0_empty, .instanceMethod yX0_empty, .selects RX0 yX0_empty yX0_empty, .initialized RX0, .code yX0_empty cX0_empty 1 none, .fieldLink RX0 15 "PieceWays$Bytes" "used" "I"] ++ wsX20 ++ wsX00)
def wsX2_alike : List Cond := .code yX2_alike cX2_alike 5 (some .int) :: ([.fieldLink RX2 10 "PieceWays" "base" "LPieceWays$Bytes;", .fieldLink RX2 16 "PieceWays" "target" "LPieceWays$Bytes;", .methodLink RX2 100 Lib.Math.min.name, .static Lib.Math.min.name, .initialized "java/lang/Math", .code Lib.Math.min.name Lib.Math.min.code 2 (some .int), .methodLink RX2 35 yX0_length, .instanceMethod yX0_length, .selects RX0 yX0_length yX0_length, .initialized RX0, .code yX0_length cX0_length 1 (some .int), .fieldLink RX0 15 "PieceWays$Bytes" "used" "I", .methodLink RX2 68 yX0_at, .instanceMethod yX0_at, .selects RX0 yX0_at yX0_at, .code yX0_at cX0_at 2 (some .int), .fieldLink RX0 9 "PieceWays$Bytes" "held" "[B"] ++ wsX20 ++ wsX00)
def wsX2_longestBlock : List Cond := .code yX2_longestBlock cX2_longestBlock 6 (some .int) :: ([.fieldLink RX2 10 "PieceWays" "base" "LPieceWays$Bytes;", .methodLink RX2 35 yX0_length, .instanceMethod yX0_length, .selects RX0 yX0_length yX0_length, .initialized RX0, .code yX0_length cX0_length 1 (some .int), .fieldLink RX0 15 "PieceWays$Bytes" "used" "I", .methodLink RX2 88 yX2_alike, .instanceMethod yX2_alike, .selects RX2 yX2_alike yX2_alike, .initialized RX2, .code yX2_alike cX2_alike 5 (some .int), .fieldLink RX2 16 "PieceWays" "target" "LPieceWays$Bytes;", .methodLink RX2 100 Lib.Math.min.name, .static Lib.Math.min.name, .initialized "java/lang/Math", .code Lib.Math.min.name Lib.Math.min.code 2 (some .int), .methodLink RX2 68 yX0_at, .instanceMethod yX0_at, .selects RX0 yX0_at yX0_at, .code yX0_at cX0_at 2 (some .int), .fieldLink RX0 9 "PieceWays$Bytes" "held" "[B"] ++ wsX20 ++ wsX00)
def wsX2_findPieces_r1 : List Cond := [Cond.fieldLink RX2 25 "PieceWays" "pieces" "LPieceWays$Pieces;", Cond.fieldLink RX2 16 "PieceWays" "target" "LPieceWays$Bytes;", Cond.methodLink RX2 95 Lib.Math.max.name, Cond.static Lib.Math.max.name, Cond.initialized "java/lang/Math", Cond.code Lib.Math.max.name Lib.Math.max.code 2 (some .int), Cond.methodLink RX2 81 yX1_empty, Cond.instanceMethod yX1_empty, Cond.selects RX1 yX1_empty yX1_empty, Cond.initialized RX1, Cond.code yX1_empty cX1_empty 1 none, Cond.fieldLink RX1 21 "PieceWays$Pieces" "used" "I", Cond.methodLink RX2 35 yX0_length, Cond.instanceMethod yX0_length, Cond.selects RX0 yX0_length yX0_length, Cond.initialized RX0, Cond.code yX0_length cX0_length 1 (some .int), Cond.fieldLink RX0 15 "PieceWays$Bytes" "used" "I", Cond.methodLink RX2 82 yX2_longestBlock, Cond.instanceMethod yX2_longestBlock, Cond.selects RX2 yX2_longestBlock yX2_longestBlock, Cond.initialized RX2, Cond.code yX2_longestBlock cX2_longestBlock 6 (some .int), Cond.fieldLink RX2 10 "PieceWays" "base" "LPieceWays$Bytes;"]
def wsX2_findPieces_r2 : List Cond := [Cond.methodLink RX2 88 yX2_alike, Cond.instanceMethod yX2_alike, Cond.selects RX2 yX2_alike yX2_alike, Cond.code yX2_alike cX2_alike 5 (some .int), Cond.methodLink RX2 100 Lib.Math.min.name, Cond.static Lib.Math.min.name, Cond.code Lib.Math.min.name Lib.Math.min.code 2 (some .int), Cond.methodLink RX2 68 yX0_at, Cond.instanceMethod yX0_at, Cond.selects RX0 yX0_at yX0_at, Cond.code yX0_at cX0_at 2 (some .int), Cond.fieldLink RX0 9 "PieceWays$Bytes" "held" "[B", Cond.methodLink RX2 85 yX1_addPlainByte, Cond.instanceMethod yX1_addPlainByte, Cond.selects RX1 yX1_addPlainByte yX1_addPlainByte, Cond.code yX1_addPlainByte cX1_addPlainByte 3 none, Cond.fieldLink RX1 9 "PieceWays$Pieces" "kinds" "[I", Cond.fieldLink RX1 18 "PieceWays$Pieces" "lengths" "[I", Cond.methodLink RX1 25 yX1_isThere, Cond.instanceMethod yX1_isThere, Cond.selects RX1 yX1_isThere yX1_isThere, Cond.code yX1_isThere cX1_isThere 2 (some .boolean), Cond.methodLink RX1 29 yX1_add, Cond.instanceMethod yX1_add]
def wsX2_findPieces_r3 : List Cond := [Cond.selects RX1 yX1_add yX1_add, Cond.code yX1_add cX1_add 4 none, Cond.fieldLink RX1 15 "PieceWays$Pieces" "begins" "[I", Cond.methodLink RX2 92 yX1_add]
def wsX2_findPieces : List Cond := .code yX2_findPieces cX2_findPieces 4 none :: ((wsX2_findPieces_r1 ++ (wsX2_findPieces_r2 ++ wsX2_findPieces_r3)) ++ wsX20 ++ wsX10 ++ wsX00)
def wsX2_writeRow_r1 : List Cond := [Cond.fieldLink RX2 32 "PieceWays" "row" "LPieceWays$Bytes;", Cond.fieldLink RX2 25 "PieceWays" "pieces" "LPieceWays$Pieces;", Cond.fieldLink RX2 29 "PieceWays" "targetThen" "LPieceWays$Bytes;", Cond.methodLink RX2 43 yX0_empty, Cond.instanceMethod yX0_empty, Cond.selects RX0 yX0_empty yX0_empty, Cond.initialized RX0, Cond.code yX0_empty cX0_empty 1 none, Cond.fieldLink RX0 15 "PieceWays$Bytes" "used" "I", Cond.methodLink RX2 56 yX1_number, Cond.instanceMethod yX1_number, Cond.selects RX1 yX1_number yX1_number, Cond.initialized RX1, Cond.code yX1_number cX1_number 1 (some .int), Cond.fieldLink RX1 21 "PieceWays$Pieces" "used" "I", Cond.methodLink RX2 59 yX1_kind, Cond.instanceMethod yX1_kind, Cond.selects RX1 yX1_kind yX1_kind, Cond.code yX1_kind cX1_kind 2 (some .int), Cond.fieldLink RX1 9 "PieceWays$Pieces" "kinds" "[I", Cond.methodLink RX1 25 yX1_isThere, Cond.instanceMethod yX1_isThere, Cond.selects RX1 yX1_isThere yX1_isThere, Cond.code yX1_isThere cX1_isThere 2 (some .boolean)]
def wsX2_writeRow_r2 : List Cond := [Cond.methodLink RX2 39 yX0_add, Cond.instanceMethod yX0_add, Cond.selects RX0 yX0_add yX0_add, Cond.code yX0_add cX0_add 2 none, Cond.fieldLink RX0 9 "PieceWays$Bytes" "held" "[B", Cond.methodLink RX2 63 yX1_begin, Cond.instanceMethod yX1_begin, Cond.selects RX1 yX1_begin yX1_begin, Cond.code yX1_begin cX1_begin 2 (some .int), Cond.fieldLink RX1 15 "PieceWays$Pieces" "begins" "[I", Cond.methodLink RX2 103 yX0_addTwo, Cond.instanceMethod yX0_addTwo, Cond.selects RX0 yX0_addTwo yX0_addTwo, Cond.code yX0_addTwo cX0_addTwo 2 none, Cond.methodLink RX0 19 yX0_add, Cond.methodLink RX2 66 yX1_length, Cond.instanceMethod yX1_length, Cond.selects RX1 yX1_length yX1_length, Cond.code yX1_length cX1_length 2 (some .int), Cond.fieldLink RX1 18 "PieceWays$Pieces" "lengths" "[I", Cond.methodLink RX2 46 yX0_addFrom, Cond.instanceMethod yX0_addFrom, Cond.selects RX0 yX0_addFrom yX0_addFrom, Cond.code yX0_addFrom cX0_addFrom 5 none]
def wsX2_writeRow_r3 : List Cond := [Cond.methodLink RX0 23 yX0_at, Cond.instanceMethod yX0_at, Cond.selects RX0 yX0_at yX0_at, Cond.code yX0_at cX0_at 2 (some .int)]
def wsX2_writeRow : List Cond := .code yX2_writeRow cX2_writeRow 2 none :: ((wsX2_writeRow_r1 ++ (wsX2_writeRow_r2 ++ wsX2_writeRow_r3)) ++ wsX20 ++ wsX00 ++ wsX10)
def wsX2_make_r1 : List Cond := [Cond.fieldLink RX2 29 "PieceWays" "targetThen" "LPieceWays$Bytes;", Cond.fieldLink RX2 16 "PieceWays" "target" "LPieceWays$Bytes;", Cond.fieldLink RX2 25 "PieceWays" "pieces" "LPieceWays$Pieces;", Cond.methodLink RX2 43 yX0_empty, Cond.instanceMethod yX0_empty, Cond.selects RX0 yX0_empty yX0_empty, Cond.initialized RX0, Cond.code yX0_empty cX0_empty 1 none, Cond.fieldLink RX0 15 "PieceWays$Bytes" "used" "I", Cond.methodLink RX2 35 yX0_length, Cond.instanceMethod yX0_length, Cond.selects RX0 yX0_length yX0_length, Cond.code yX0_length cX0_length 1 (some .int), Cond.methodLink RX2 46 yX0_addFrom, Cond.instanceMethod yX0_addFrom, Cond.selects RX0 yX0_addFrom yX0_addFrom, Cond.code yX0_addFrom cX0_addFrom 5 none, Cond.methodLink RX0 23 yX0_at, Cond.instanceMethod yX0_at, Cond.selects RX0 yX0_at yX0_at, Cond.code yX0_at cX0_at 2 (some .int), Cond.fieldLink RX0 9 "PieceWays$Bytes" "held" "[B", Cond.methodLink RX0 19 yX0_add, Cond.instanceMethod yX0_add]
def wsX2_make_r2 : List Cond := [Cond.selects RX0 yX0_add yX0_add, Cond.code yX0_add cX0_add 2 none, Cond.methodLink RX2 50 yX2_findPieces, Cond.instanceMethod yX2_findPieces, Cond.selects RX2 yX2_findPieces yX2_findPieces, Cond.initialized RX2, Cond.code yX2_findPieces cX2_findPieces 4 none, Cond.methodLink RX2 95 Lib.Math.max.name, Cond.static Lib.Math.max.name, Cond.initialized "java/lang/Math", Cond.code Lib.Math.max.name Lib.Math.max.code 2 (some .int), Cond.methodLink RX2 81 yX1_empty, Cond.instanceMethod yX1_empty, Cond.selects RX1 yX1_empty yX1_empty, Cond.initialized RX1, Cond.code yX1_empty cX1_empty 1 none, Cond.fieldLink RX1 21 "PieceWays$Pieces" "used" "I", Cond.methodLink RX2 82 yX2_longestBlock, Cond.instanceMethod yX2_longestBlock, Cond.selects RX2 yX2_longestBlock yX2_longestBlock, Cond.code yX2_longestBlock cX2_longestBlock 6 (some .int), Cond.fieldLink RX2 10 "PieceWays" "base" "LPieceWays$Bytes;", Cond.methodLink RX2 88 yX2_alike, Cond.instanceMethod yX2_alike]
def wsX2_make_r3 : List Cond := [Cond.selects RX2 yX2_alike yX2_alike, Cond.code yX2_alike cX2_alike 5 (some .int), Cond.methodLink RX2 100 Lib.Math.min.name, Cond.static Lib.Math.min.name, Cond.code Lib.Math.min.name Lib.Math.min.code 2 (some .int), Cond.methodLink RX2 68 yX0_at, Cond.methodLink RX2 85 yX1_addPlainByte, Cond.instanceMethod yX1_addPlainByte, Cond.selects RX1 yX1_addPlainByte yX1_addPlainByte, Cond.code yX1_addPlainByte cX1_addPlainByte 3 none, Cond.fieldLink RX1 9 "PieceWays$Pieces" "kinds" "[I", Cond.fieldLink RX1 18 "PieceWays$Pieces" "lengths" "[I", Cond.methodLink RX1 25 yX1_isThere, Cond.instanceMethod yX1_isThere, Cond.selects RX1 yX1_isThere yX1_isThere, Cond.code yX1_isThere cX1_isThere 2 (some .boolean), Cond.methodLink RX1 29 yX1_add, Cond.instanceMethod yX1_add, Cond.selects RX1 yX1_add yX1_add, Cond.code yX1_add cX1_add 4 none, Cond.fieldLink RX1 15 "PieceWays$Pieces" "begins" "[I", Cond.methodLink RX2 92 yX1_add, Cond.methodLink RX2 53 yX2_writeRow, Cond.instanceMethod yX2_writeRow]
def wsX2_make_r4 : List Cond := [Cond.selects RX2 yX2_writeRow yX2_writeRow, Cond.code yX2_writeRow cX2_writeRow 2 none, Cond.fieldLink RX2 32 "PieceWays" "row" "LPieceWays$Bytes;", Cond.methodLink RX2 56 yX1_number, Cond.instanceMethod yX1_number, Cond.selects RX1 yX1_number yX1_number, Cond.code yX1_number cX1_number 1 (some .int), Cond.methodLink RX2 59 yX1_kind, Cond.instanceMethod yX1_kind, Cond.selects RX1 yX1_kind yX1_kind, Cond.code yX1_kind cX1_kind 2 (some .int), Cond.methodLink RX2 39 yX0_add, Cond.methodLink RX2 63 yX1_begin, Cond.instanceMethod yX1_begin, Cond.selects RX1 yX1_begin yX1_begin, Cond.code yX1_begin cX1_begin 2 (some .int), Cond.methodLink RX2 103 yX0_addTwo, Cond.instanceMethod yX0_addTwo, Cond.selects RX0 yX0_addTwo yX0_addTwo, Cond.code yX0_addTwo cX0_addTwo 2 none, Cond.methodLink RX2 66 yX1_length, Cond.instanceMethod yX1_length, Cond.selects RX1 yX1_length yX1_length, Cond.code yX1_length cX1_length 2 (some .int)]
def wsX2_make : List Cond := .code yX2_make cX2_make 1 (some .int) :: ((wsX2_make_r1 ++ (wsX2_make_r2 ++ (wsX2_make_r3 ++ wsX2_make_r4))) ++ wsX20 ++ wsX00 ++ wsX10)
def wsX2_piece : List Cond := .code yX2_piece cX2_piece 3 (some .int) :: ([.fieldLink RX2 25 "PieceWays" "pieces" "LPieceWays$Pieces;", .methodLink RX2 59 yX1_kind, .instanceMethod yX1_kind, .selects RX1 yX1_kind yX1_kind, .initialized RX1, .code yX1_kind cX1_kind 2 (some .int), .fieldLink RX1 9 "PieceWays$Pieces" "kinds" "[I", .methodLink RX1 25 yX1_isThere, .instanceMethod yX1_isThere, .selects RX1 yX1_isThere yX1_isThere, .code yX1_isThere cX1_isThere 2 (some .boolean), .fieldLink RX1 21 "PieceWays$Pieces" "used" "I", .methodLink RX2 63 yX1_begin, .instanceMethod yX1_begin, .selects RX1 yX1_begin yX1_begin, .code yX1_begin cX1_begin 2 (some .int), .fieldLink RX1 15 "PieceWays$Pieces" "begins" "[I", .methodLink RX2 66 yX1_length, .instanceMethod yX1_length, .selects RX1 yX1_length yX1_length, .code yX1_length cX1_length 2 (some .int), .fieldLink RX1 18 "PieceWays$Pieces" "lengths" "[I"] ++ wsX20 ++ wsX10)
def wsX2_size : List Cond := .code yX2_size cX2_size 1 (some .int) :: ([.fieldLink RX2 32 "PieceWays" "row" "LPieceWays$Bytes;", .methodLink RX2 35 yX0_length, .instanceMethod yX0_length, .selects RX0 yX0_length yX0_length, .initialized RX0, .code yX0_length cX0_length 1 (some .int), .fieldLink RX0 15 "PieceWays$Bytes" "used" "I"] ++ wsX20 ++ wsX00)
def wsX2_way : List Cond := .code yX2_way cX2_way 2 (some .int) :: ([.fieldLink RX2 32 "PieceWays" "row" "LPieceWays$Bytes;", .methodLink RX2 68 yX0_at, .instanceMethod yX0_at, .selects RX0 yX0_at yX0_at, .initialized RX0, .code yX0_at cX0_at 2 (some .int), .fieldLink RX0 15 "PieceWays$Bytes" "used" "I", .fieldLink RX0 9 "PieceWays$Bytes" "held" "[B"] ++ wsX20 ++ wsX00)
def wsX2_go_r1 : List Cond := [Cond.classLink RX2 74 "java/lang/IllegalStateException", Cond.initialized "java/lang/IllegalStateException", Cond.fieldLink RX2 25 "PieceWays" "pieces" "LPieceWays$Pieces;", Cond.fieldLink RX2 10 "PieceWays" "base" "LPieceWays$Bytes;", Cond.fieldLink RX2 19 "PieceWays" "result" "LPieceWays$Bytes;", Cond.fieldLink RX2 29 "PieceWays" "targetThen" "LPieceWays$Bytes;", Cond.methodLink RX2 71 yX1_copiedEnd, Cond.instanceMethod yX1_copiedEnd, Cond.selects RX1 yX1_copiedEnd yX1_copiedEnd, Cond.initialized RX1, Cond.code yX1_copiedEnd cX1_copiedEnd 3 (some .int), Cond.fieldLink RX1 21 "PieceWays$Pieces" "used" "I", Cond.methodLink RX1 43 Lib.Math.max.name, Cond.static Lib.Math.max.name, Cond.initialized "java/lang/Math", Cond.code Lib.Math.max.name Lib.Math.max.code 2 (some .int), Cond.methodLink RX1 33 yX1_kind, Cond.instanceMethod yX1_kind, Cond.selects RX1 yX1_kind yX1_kind, Cond.code yX1_kind cX1_kind 2 (some .int), Cond.fieldLink RX1 9 "PieceWays$Pieces" "kinds" "[I", Cond.methodLink RX1 25 yX1_isThere, Cond.instanceMethod yX1_isThere, Cond.selects RX1 yX1_isThere yX1_isThere]
def wsX2_go_r2 : List Cond := [Cond.code yX1_isThere cX1_isThere 2 (some .boolean), Cond.methodLink RX1 37 yX1_begin, Cond.instanceMethod yX1_begin, Cond.selects RX1 yX1_begin yX1_begin, Cond.code yX1_begin cX1_begin 2 (some .int), Cond.fieldLink RX1 15 "PieceWays$Pieces" "begins" "[I", Cond.methodLink RX1 40 yX1_length, Cond.instanceMethod yX1_length, Cond.selects RX1 yX1_length yX1_length, Cond.code yX1_length cX1_length 2 (some .int), Cond.fieldLink RX1 18 "PieceWays$Pieces" "lengths" "[I", Cond.methodLink RX2 35 yX0_length, Cond.instanceMethod yX0_length, Cond.selects RX0 yX0_length yX0_length, Cond.initialized RX0, Cond.code yX0_length cX0_length 1 (some .int), Cond.fieldLink RX0 15 "PieceWays$Bytes" "used" "I", Cond.methodLink RX2 43 yX0_empty, Cond.instanceMethod yX0_empty, Cond.selects RX0 yX0_empty yX0_empty, Cond.code yX0_empty cX0_empty 1 none, Cond.methodLink RX2 56 yX1_number, Cond.instanceMethod yX1_number, Cond.selects RX1 yX1_number yX1_number]
def wsX2_go_r3 : List Cond := [Cond.code yX1_number cX1_number 1 (some .int), Cond.methodLink RX2 59 yX1_kind, Cond.methodLink RX2 63 yX1_begin, Cond.methodLink RX2 66 yX1_length, Cond.methodLink RX2 46 yX0_addFrom, Cond.instanceMethod yX0_addFrom, Cond.selects RX0 yX0_addFrom yX0_addFrom, Cond.code yX0_addFrom cX0_addFrom 5 none, Cond.methodLink RX0 23 yX0_at, Cond.instanceMethod yX0_at, Cond.selects RX0 yX0_at yX0_at, Cond.code yX0_at cX0_at 2 (some .int), Cond.fieldLink RX0 9 "PieceWays$Bytes" "held" "[B", Cond.methodLink RX0 19 yX0_add, Cond.instanceMethod yX0_add, Cond.selects RX0 yX0_add yX0_add, Cond.code yX0_add cX0_add 2 none]
def wsX2_go : List Cond := .code yX2_go cX2_go 3 (some .int) :: ((wsX2_go_r1 ++ (wsX2_go_r2 ++ wsX2_go_r3)) ++ wsX20 ++ wsX10 ++ wsX00 ++ (vx_atS RX2 78 "java/lang/IllegalStateException" ["java/lang/RuntimeException", "java/lang/Exception"]).filter goodWord)
def wsX2_result : List Cond := .code yX2_result cX2_result 2 (some .int) :: ([.fieldLink RX2 19 "PieceWays" "result" "LPieceWays$Bytes;", .methodLink RX2 68 yX0_at, .instanceMethod yX0_at, .selects RX0 yX0_at yX0_at, .initialized RX0, .code yX0_at cX0_at 2 (some .int), .fieldLink RX0 15 "PieceWays$Bytes" "used" "I", .fieldLink RX0 9 "PieceWays$Bytes" "held" "[B"] ++ wsX20 ++ wsX00)
def wsX2_count : List Cond := .code yX2_count cX2_count 2 (some .int) :: ([.fieldLink RX2 10 "PieceWays" "base" "LPieceWays$Bytes;", .fieldLink RX2 16 "PieceWays" "target" "LPieceWays$Bytes;", .fieldLink RX2 19 "PieceWays" "result" "LPieceWays$Bytes;", .methodLink RX2 35 yX0_length, .instanceMethod yX0_length, .selects RX0 yX0_length yX0_length, .initialized RX0, .code yX0_length cX0_length 1 (some .int), .fieldLink RX0 15 "PieceWays$Bytes" "used" "I"] ++ wsX20 ++ wsX00)
def wsJ9_max_7cf53 : List Cond := .code yJ9_max_7cf53 cJ9_max_7cf53 2 (some .int) :: ([])
def wsJ9_min_7cf53 : List Cond := .code yJ9_min_7cf53 cJ9_min_7cf53 2 (some .int) :: ([])
def wsL_go_r1 : List Cond := [Cond.classLink RL 13 "java/lang/IllegalStateException", Cond.methodLink RL 7 yX2_go, Cond.instanceMethod yX2_go, Cond.selects RX2 yX2_go yX2_go, Cond.initialized RX2, Cond.code yX2_go cX2_go 3 (some .int), Cond.classLink RX2 74 "java/lang/IllegalStateException", Cond.initialized "java/lang/IllegalStateException", Cond.fieldLink RX2 25 "PieceWays" "pieces" "LPieceWays$Pieces;", Cond.fieldLink RX2 10 "PieceWays" "base" "LPieceWays$Bytes;", Cond.fieldLink RX2 19 "PieceWays" "result" "LPieceWays$Bytes;", Cond.fieldLink RX2 29 "PieceWays" "targetThen" "LPieceWays$Bytes;", Cond.methodLink RX2 71 yX1_copiedEnd, Cond.instanceMethod yX1_copiedEnd, Cond.selects RX1 yX1_copiedEnd yX1_copiedEnd, Cond.initialized RX1, Cond.code yX1_copiedEnd cX1_copiedEnd 3 (some .int), Cond.fieldLink RX1 21 "PieceWays$Pieces" "used" "I", Cond.methodLink RX1 43 Lib.Math.max.name, Cond.static Lib.Math.max.name, Cond.initialized "java/lang/Math", Cond.code Lib.Math.max.name Lib.Math.max.code 2 (some .int), Cond.methodLink RX1 33 yX1_kind, Cond.instanceMethod yX1_kind]
def wsL_go_r2 : List Cond := [Cond.selects RX1 yX1_kind yX1_kind, Cond.code yX1_kind cX1_kind 2 (some .int), Cond.fieldLink RX1 9 "PieceWays$Pieces" "kinds" "[I", Cond.methodLink RX1 25 yX1_isThere, Cond.instanceMethod yX1_isThere, Cond.selects RX1 yX1_isThere yX1_isThere, Cond.code yX1_isThere cX1_isThere 2 (some .boolean), Cond.methodLink RX1 37 yX1_begin, Cond.instanceMethod yX1_begin, Cond.selects RX1 yX1_begin yX1_begin, Cond.code yX1_begin cX1_begin 2 (some .int), Cond.fieldLink RX1 15 "PieceWays$Pieces" "begins" "[I", Cond.methodLink RX1 40 yX1_length, Cond.instanceMethod yX1_length, Cond.selects RX1 yX1_length yX1_length, Cond.code yX1_length cX1_length 2 (some .int), Cond.fieldLink RX1 18 "PieceWays$Pieces" "lengths" "[I", Cond.methodLink RX2 35 yX0_length, Cond.instanceMethod yX0_length, Cond.selects RX0 yX0_length yX0_length, Cond.initialized RX0, Cond.code yX0_length cX0_length 1 (some .int), Cond.fieldLink RX0 15 "PieceWays$Bytes" "used" "I", Cond.methodLink RX2 43 yX0_empty]
def wsL_go_r3 : List Cond := [Cond.instanceMethod yX0_empty, Cond.selects RX0 yX0_empty yX0_empty, Cond.code yX0_empty cX0_empty 1 none, Cond.methodLink RX2 56 yX1_number, Cond.instanceMethod yX1_number, Cond.selects RX1 yX1_number yX1_number, Cond.code yX1_number cX1_number 1 (some .int), Cond.methodLink RX2 59 yX1_kind, Cond.methodLink RX2 63 yX1_begin, Cond.methodLink RX2 66 yX1_length, Cond.methodLink RX2 46 yX0_addFrom, Cond.instanceMethod yX0_addFrom, Cond.selects RX0 yX0_addFrom yX0_addFrom, Cond.code yX0_addFrom cX0_addFrom 5 none, Cond.methodLink RX0 23 yX0_at, Cond.instanceMethod yX0_at, Cond.selects RX0 yX0_at yX0_at, Cond.code yX0_at cX0_at 2 (some .int), Cond.fieldLink RX0 9 "PieceWays$Bytes" "held" "[B", Cond.methodLink RX0 19 yX0_add, Cond.instanceMethod yX0_add, Cond.selects RX0 yX0_add yX0_add, Cond.code yX0_add cX0_add 2 none]
def wsL_go : List Cond := .codeWith yL_go cL_go 3 (some .int) [(0, 8, 11, 13)] :: ((wsL_go_r1 ++ (wsL_go_r2 ++ wsL_go_r3)) ++ wsX20 ++ wsX10 ++ wsX00 ++ (vx_atS RX2 78 "java/lang/IllegalStateException" ["java/lang/RuntimeException", "java/lang/Exception"]).filter goodWord)
theorem dX0_init_0 : decode cX0_init 0 = .ok (.aload_n 0, 1) := by decide +kernel
theorem dX0_init_1 : decode cX0_init 1 = .ok (.invokespecial 3, 3) := by decide +kernel
theorem dX0_init_4 : decode cX0_init 4 = .ok (.aload_n 0, 1) := by decide +kernel
theorem dX0_init_5 : decode cX0_init 5 = .ok (.sipush 603, 3) := by decide +kernel
theorem dX0_init_8 : decode cX0_init 8 = .ok (.newarray .byte, 2) := by decide +kernel
theorem dX0_init_10 : decode cX0_init 10 = .ok (.putfield 9, 3) := by decide +kernel
theorem dX0_init_13 : decode cX0_init 13 = .ok (.aload_n 0, 1) := by decide +kernel
theorem dX0_init_14 : decode cX0_init 14 = .ok (.iconst 0, 1) := by decide +kernel
theorem dX0_init_15 : decode cX0_init 15 = .ok (.putfield 15, 3) := by decide +kernel
theorem dX0_init_18 : decode cX0_init 18 = .ok (.return_, 1) := by decide +kernel
theorem dX0_length_0 : decode cX0_length 0 = .ok (.aload_n 0, 1) := by decide +kernel
theorem dX0_length_1 : decode cX0_length 1 = .ok (.getfield 15, 3) := by decide +kernel
theorem dX0_length_4 : decode cX0_length 4 = .ok (.ireturn, 1) := by decide +kernel
theorem dX0_at_0 : decode cX0_at 0 = .ok (.iload_n 1, 1) := by decide +kernel
theorem dX0_at_1 : decode cX0_at 1 = .ok (.ifCond .lt 20, 3) := by decide +kernel
theorem dX0_at_4 : decode cX0_at 4 = .ok (.iload_n 1, 1) := by decide +kernel
theorem dX0_at_5 : decode cX0_at 5 = .ok (.aload_n 0, 1) := by decide +kernel
theorem dX0_at_6 : decode cX0_at 6 = .ok (.getfield 15, 3) := by decide +kernel
theorem dX0_at_9 : decode cX0_at 9 = .ok (.if_icmp .ge 12, 3) := by decide +kernel
theorem dX0_at_12 : decode cX0_at 12 = .ok (.iload_n 1, 1) := by decide +kernel
theorem dX0_at_13 : decode cX0_at 13 = .ok (.aload_n 0, 1) := by decide +kernel
theorem dX0_at_14 : decode cX0_at 14 = .ok (.getfield 9, 3) := by decide +kernel
theorem dX0_at_17 : decode cX0_at 17 = .ok (.arraylength, 1) := by decide +kernel
theorem dX0_at_18 : decode cX0_at 18 = .ok (.if_icmp .lt 5, 3) := by decide +kernel
theorem dX0_at_21 : decode cX0_at 21 = .ok (.iconst (-1), 1) := by decide +kernel
theorem dX0_at_22 : decode cX0_at 22 = .ok (.ireturn, 1) := by decide +kernel
theorem dX0_at_23 : decode cX0_at 23 = .ok (.aload_n 0, 1) := by decide +kernel
theorem dX0_at_24 : decode cX0_at 24 = .ok (.getfield 9, 3) := by decide +kernel
theorem dX0_at_27 : decode cX0_at 27 = .ok (.iload_n 1, 1) := by decide +kernel
theorem dX0_at_28 : decode cX0_at 28 = .ok (.baload, 1) := by decide +kernel
theorem dX0_at_29 : decode cX0_at 29 = .ok (.sipush 255, 3) := by decide +kernel
theorem dX0_at_32 : decode cX0_at 32 = .ok (.iand, 1) := by decide +kernel
theorem dX0_at_33 : decode cX0_at 33 = .ok (.ireturn, 1) := by decide +kernel
theorem dX0_empty_0 : decode cX0_empty 0 = .ok (.aload_n 0, 1) := by decide +kernel
theorem dX0_empty_1 : decode cX0_empty 1 = .ok (.iconst 0, 1) := by decide +kernel
theorem dX0_empty_2 : decode cX0_empty 2 = .ok (.putfield 15, 3) := by decide +kernel
theorem dX0_empty_5 : decode cX0_empty 5 = .ok (.return_, 1) := by decide +kernel
theorem dX0_add_0 : decode cX0_add 0 = .ok (.aload_n 0, 1) := by decide +kernel
theorem dX0_add_1 : decode cX0_add 1 = .ok (.getfield 15, 3) := by decide +kernel
theorem dX0_add_4 : decode cX0_add 4 = .ok (.ifCond .lt 15, 3) := by decide +kernel
theorem dX0_add_7 : decode cX0_add 7 = .ok (.aload_n 0, 1) := by decide +kernel
theorem dX0_add_8 : decode cX0_add 8 = .ok (.getfield 15, 3) := by decide +kernel
theorem dX0_add_11 : decode cX0_add 11 = .ok (.aload_n 0, 1) := by decide +kernel
theorem dX0_add_12 : decode cX0_add 12 = .ok (.getfield 9, 3) := by decide +kernel
theorem dX0_add_15 : decode cX0_add 15 = .ok (.arraylength, 1) := by decide +kernel
theorem dX0_add_16 : decode cX0_add 16 = .ok (.if_icmp .lt 4, 3) := by decide +kernel
theorem dX0_add_19 : decode cX0_add 19 = .ok (.return_, 1) := by decide +kernel
theorem dX0_add_20 : decode cX0_add 20 = .ok (.aload_n 0, 1) := by decide +kernel
theorem dX0_add_21 : decode cX0_add 21 = .ok (.getfield 9, 3) := by decide +kernel
theorem dX0_add_24 : decode cX0_add 24 = .ok (.aload_n 0, 1) := by decide +kernel
theorem dX0_add_25 : decode cX0_add 25 = .ok (.getfield 15, 3) := by decide +kernel
theorem dX0_add_28 : decode cX0_add 28 = .ok (.iload_n 1, 1) := by decide +kernel
theorem dX0_add_29 : decode cX0_add 29 = .ok (.i2b, 1) := by decide +kernel
theorem dX0_add_30 : decode cX0_add 30 = .ok (.bastore, 1) := by decide +kernel
theorem dX0_add_31 : decode cX0_add 31 = .ok (.aload_n 0, 1) := by decide +kernel
theorem dX0_add_32 : decode cX0_add 32 = .ok (.dup, 1) := by decide +kernel
theorem dX0_add_33 : decode cX0_add 33 = .ok (.getfield 15, 3) := by decide +kernel
theorem dX0_add_36 : decode cX0_add 36 = .ok (.iconst 1, 1) := by decide +kernel
theorem dX0_add_37 : decode cX0_add 37 = .ok (.iadd, 1) := by decide +kernel
theorem dX0_add_38 : decode cX0_add 38 = .ok (.putfield 15, 3) := by decide +kernel
theorem dX0_add_41 : decode cX0_add 41 = .ok (.return_, 1) := by decide +kernel
set_option maxRecDepth 20000 in
theorem ggX0_addTwo_X0_add : GoodIn wsX0_addTwo wsX0_add := goodIn_r _ [5, 6, 7, 8, 9] (by decide +kernel) (by decide +kernel)
set_option maxRecDepth 20000 in
theorem gX0_addTwo_X0_add : GoodIn wsX0_addTwo (wsV RX0 19 RX0 yX0_add wsX0_add) := goodIn_app (goodIn_of _ (by decide +kernel)) ggX0_addTwo_X0_add
theorem dX0_addTwo_0 : decode cX0_addTwo 0 = .ok (.aload_n 0, 1) := by decide +kernel
theorem dX0_addTwo_1 : decode cX0_addTwo 1 = .ok (.iload_n 1, 1) := by decide +kernel
theorem dX0_addTwo_2 : decode cX0_addTwo 2 = .ok (.bipush 8, 2) := by decide +kernel
theorem dX0_addTwo_4 : decode cX0_addTwo 4 = .ok (.ishr, 1) := by decide +kernel
theorem dX0_addTwo_5 : decode cX0_addTwo 5 = .ok (.invokevirtual 19, 3) := by decide +kernel
theorem dX0_addTwo_8 : decode cX0_addTwo 8 = .ok (.aload_n 0, 1) := by decide +kernel
theorem dX0_addTwo_9 : decode cX0_addTwo 9 = .ok (.iload_n 1, 1) := by decide +kernel
theorem dX0_addTwo_10 : decode cX0_addTwo 10 = .ok (.invokevirtual 19, 3) := by decide +kernel
theorem dX0_addTwo_13 : decode cX0_addTwo 13 = .ok (.return_, 1) := by decide +kernel
set_option maxRecDepth 20000 in
theorem ggX0_addFrom_X0_at : GoodIn wsX0_addFrom wsX0_at := goodIn_r _ [5, 6, 7, 12, 13] (by decide +kernel) (by decide +kernel)
set_option maxRecDepth 20000 in
theorem gX0_addFrom_X0_at : GoodIn wsX0_addFrom (wsV RX0 23 RX0 yX0_at wsX0_at) := goodIn_app (goodIn_of _ (by decide +kernel)) ggX0_addFrom_X0_at
set_option maxRecDepth 20000 in
theorem ggX0_addFrom_X0_add : GoodIn wsX0_addFrom wsX0_add := goodIn_r _ [11, 6, 7, 12, 13] (by decide +kernel) (by decide +kernel)
set_option maxRecDepth 20000 in
theorem gX0_addFrom_X0_add : GoodIn wsX0_addFrom (wsV RX0 19 RX0 yX0_add wsX0_add) := goodIn_app (goodIn_of _ (by decide +kernel)) ggX0_addFrom_X0_add
theorem dX0_addFrom_0 : decode cX0_addFrom 0 = .ok (.iconst 0, 1) := by decide +kernel
theorem dX0_addFrom_1 : decode cX0_addFrom 1 = .ok (.istore 4, 2) := by decide +kernel
theorem dX0_addFrom_3 : decode cX0_addFrom 3 = .ok (.iload 4, 2) := by decide +kernel
theorem dX0_addFrom_5 : decode cX0_addFrom 5 = .ok (.iload_n 3, 1) := by decide +kernel
theorem dX0_addFrom_6 : decode cX0_addFrom 6 = .ok (.if_icmp .ge 21, 3) := by decide +kernel
theorem dX0_addFrom_9 : decode cX0_addFrom 9 = .ok (.aload_n 0, 1) := by decide +kernel
theorem dX0_addFrom_10 : decode cX0_addFrom 10 = .ok (.aload_n 1, 1) := by decide +kernel
theorem dX0_addFrom_11 : decode cX0_addFrom 11 = .ok (.iload_n 2, 1) := by decide +kernel
theorem dX0_addFrom_12 : decode cX0_addFrom 12 = .ok (.iload 4, 2) := by decide +kernel
theorem dX0_addFrom_14 : decode cX0_addFrom 14 = .ok (.iadd, 1) := by decide +kernel
theorem dX0_addFrom_15 : decode cX0_addFrom 15 = .ok (.invokevirtual 23, 3) := by decide +kernel
theorem dX0_addFrom_18 : decode cX0_addFrom 18 = .ok (.invokevirtual 19, 3) := by decide +kernel
theorem dX0_addFrom_21 : decode cX0_addFrom 21 = .ok (.iinc 4 1, 3) := by decide +kernel
theorem dX0_addFrom_24 : decode cX0_addFrom 24 = .ok (.goto (-21), 3) := by decide +kernel
theorem dX0_addFrom_27 : decode cX0_addFrom 27 = .ok (.return_, 1) := by decide +kernel
theorem dX1_init_0 : decode cX1_init 0 = .ok (.aload_n 0, 1) := by decide +kernel
theorem dX1_init_1 : decode cX1_init 1 = .ok (.invokespecial 3, 3) := by decide +kernel
theorem dX1_init_4 : decode cX1_init 4 = .ok (.aload_n 0, 1) := by decide +kernel
theorem dX1_init_5 : decode cX1_init 5 = .ok (.sipush 133, 3) := by decide +kernel
theorem dX1_init_8 : decode cX1_init 8 = .ok (.newarray .int, 2) := by decide +kernel
theorem dX1_init_10 : decode cX1_init 10 = .ok (.putfield 9, 3) := by decide +kernel
theorem dX1_init_13 : decode cX1_init 13 = .ok (.aload_n 0, 1) := by decide +kernel
theorem dX1_init_14 : decode cX1_init 14 = .ok (.sipush 133, 3) := by decide +kernel
theorem dX1_init_17 : decode cX1_init 17 = .ok (.newarray .int, 2) := by decide +kernel
theorem dX1_init_19 : decode cX1_init 19 = .ok (.putfield 15, 3) := by decide +kernel
theorem dX1_init_22 : decode cX1_init 22 = .ok (.aload_n 0, 1) := by decide +kernel
theorem dX1_init_23 : decode cX1_init 23 = .ok (.sipush 133, 3) := by decide +kernel
theorem dX1_init_26 : decode cX1_init 26 = .ok (.newarray .int, 2) := by decide +kernel
theorem dX1_init_28 : decode cX1_init 28 = .ok (.putfield 18, 3) := by decide +kernel
theorem dX1_init_31 : decode cX1_init 31 = .ok (.aload_n 0, 1) := by decide +kernel
theorem dX1_init_32 : decode cX1_init 32 = .ok (.iconst 0, 1) := by decide +kernel
theorem dX1_init_33 : decode cX1_init 33 = .ok (.putfield 21, 3) := by decide +kernel
theorem dX1_init_36 : decode cX1_init 36 = .ok (.return_, 1) := by decide +kernel
theorem dX1_number_0 : decode cX1_number 0 = .ok (.aload_n 0, 1) := by decide +kernel
theorem dX1_number_1 : decode cX1_number 1 = .ok (.getfield 21, 3) := by decide +kernel
theorem dX1_number_4 : decode cX1_number 4 = .ok (.ireturn, 1) := by decide +kernel
set_option maxRecDepth 20000 in
theorem ggX1_kind_X1_isThere : GoodIn wsX1_kind wsX1_isThere := goodIn_r _ [6, 7, 8, 9, 10, 11] (by decide +kernel) (by decide +kernel)
set_option maxRecDepth 20000 in
theorem gX1_kind_X1_isThere : GoodIn wsX1_kind (wsV RX1 25 RX1 yX1_isThere wsX1_isThere) := goodIn_app (goodIn_of _ (by decide +kernel)) ggX1_kind_X1_isThere
theorem dX1_kind_0 : decode cX1_kind 0 = .ok (.aload_n 0, 1) := by decide +kernel
theorem dX1_kind_1 : decode cX1_kind 1 = .ok (.iload_n 1, 1) := by decide +kernel
theorem dX1_kind_2 : decode cX1_kind 2 = .ok (.invokevirtual 25, 3) := by decide +kernel
theorem dX1_kind_5 : decode cX1_kind 5 = .ok (.ifCond .eq 12, 3) := by decide +kernel
theorem dX1_kind_8 : decode cX1_kind 8 = .ok (.aload_n 0, 1) := by decide +kernel
theorem dX1_kind_9 : decode cX1_kind 9 = .ok (.getfield 9, 3) := by decide +kernel
theorem dX1_kind_12 : decode cX1_kind 12 = .ok (.iload_n 1, 1) := by decide +kernel
theorem dX1_kind_13 : decode cX1_kind 13 = .ok (.iaload, 1) := by decide +kernel
theorem dX1_kind_14 : decode cX1_kind 14 = .ok (.goto 4, 3) := by decide +kernel
theorem dX1_kind_17 : decode cX1_kind 17 = .ok (.iconst (-1), 1) := by decide +kernel
theorem dX1_kind_18 : decode cX1_kind 18 = .ok (.ireturn, 1) := by decide +kernel
set_option maxRecDepth 20000 in
theorem ggX1_begin_X1_isThere : GoodIn wsX1_begin wsX1_isThere := goodIn_r _ [6, 7, 8, 9, 10, 11] (by decide +kernel) (by decide +kernel)
set_option maxRecDepth 20000 in
theorem gX1_begin_X1_isThere : GoodIn wsX1_begin (wsV RX1 25 RX1 yX1_isThere wsX1_isThere) := goodIn_app (goodIn_of _ (by decide +kernel)) ggX1_begin_X1_isThere
theorem dX1_begin_0 : decode cX1_begin 0 = .ok (.aload_n 0, 1) := by decide +kernel
theorem dX1_begin_1 : decode cX1_begin 1 = .ok (.iload_n 1, 1) := by decide +kernel
theorem dX1_begin_2 : decode cX1_begin 2 = .ok (.invokevirtual 25, 3) := by decide +kernel
theorem dX1_begin_5 : decode cX1_begin 5 = .ok (.ifCond .eq 12, 3) := by decide +kernel
theorem dX1_begin_8 : decode cX1_begin 8 = .ok (.aload_n 0, 1) := by decide +kernel
theorem dX1_begin_9 : decode cX1_begin 9 = .ok (.getfield 15, 3) := by decide +kernel
theorem dX1_begin_12 : decode cX1_begin 12 = .ok (.iload_n 1, 1) := by decide +kernel
theorem dX1_begin_13 : decode cX1_begin 13 = .ok (.iaload, 1) := by decide +kernel
theorem dX1_begin_14 : decode cX1_begin 14 = .ok (.goto 4, 3) := by decide +kernel
theorem dX1_begin_17 : decode cX1_begin 17 = .ok (.iconst (-1), 1) := by decide +kernel
theorem dX1_begin_18 : decode cX1_begin 18 = .ok (.ireturn, 1) := by decide +kernel
set_option maxRecDepth 20000 in
theorem ggX1_length_X1_isThere : GoodIn wsX1_length wsX1_isThere := goodIn_r _ [6, 7, 8, 9, 10, 11] (by decide +kernel) (by decide +kernel)
set_option maxRecDepth 20000 in
theorem gX1_length_X1_isThere : GoodIn wsX1_length (wsV RX1 25 RX1 yX1_isThere wsX1_isThere) := goodIn_app (goodIn_of _ (by decide +kernel)) ggX1_length_X1_isThere
theorem dX1_length_0 : decode cX1_length 0 = .ok (.aload_n 0, 1) := by decide +kernel
theorem dX1_length_1 : decode cX1_length 1 = .ok (.iload_n 1, 1) := by decide +kernel
theorem dX1_length_2 : decode cX1_length 2 = .ok (.invokevirtual 25, 3) := by decide +kernel
theorem dX1_length_5 : decode cX1_length 5 = .ok (.ifCond .eq 12, 3) := by decide +kernel
theorem dX1_length_8 : decode cX1_length 8 = .ok (.aload_n 0, 1) := by decide +kernel
theorem dX1_length_9 : decode cX1_length 9 = .ok (.getfield 18, 3) := by decide +kernel
theorem dX1_length_12 : decode cX1_length 12 = .ok (.iload_n 1, 1) := by decide +kernel
theorem dX1_length_13 : decode cX1_length 13 = .ok (.iaload, 1) := by decide +kernel
theorem dX1_length_14 : decode cX1_length 14 = .ok (.goto 4, 3) := by decide +kernel
theorem dX1_length_17 : decode cX1_length 17 = .ok (.iconst (-1), 1) := by decide +kernel
theorem dX1_length_18 : decode cX1_length 18 = .ok (.ireturn, 1) := by decide +kernel
theorem dX1_empty_0 : decode cX1_empty 0 = .ok (.aload_n 0, 1) := by decide +kernel
theorem dX1_empty_1 : decode cX1_empty 1 = .ok (.iconst 0, 1) := by decide +kernel
theorem dX1_empty_2 : decode cX1_empty 2 = .ok (.putfield 21, 3) := by decide +kernel
theorem dX1_empty_5 : decode cX1_empty 5 = .ok (.return_, 1) := by decide +kernel
theorem dX1_add_0 : decode cX1_add 0 = .ok (.aload_n 0, 1) := by decide +kernel
theorem dX1_add_1 : decode cX1_add 1 = .ok (.getfield 21, 3) := by decide +kernel
theorem dX1_add_4 : decode cX1_add 4 = .ok (.ifCond .lt 13, 3) := by decide +kernel
theorem dX1_add_7 : decode cX1_add 7 = .ok (.aload_n 0, 1) := by decide +kernel
theorem dX1_add_8 : decode cX1_add 8 = .ok (.getfield 21, 3) := by decide +kernel
theorem dX1_add_11 : decode cX1_add 11 = .ok (.sipush 133, 3) := by decide +kernel
theorem dX1_add_14 : decode cX1_add 14 = .ok (.if_icmp .lt 4, 3) := by decide +kernel
theorem dX1_add_17 : decode cX1_add 17 = .ok (.return_, 1) := by decide +kernel
theorem dX1_add_18 : decode cX1_add 18 = .ok (.aload_n 0, 1) := by decide +kernel
theorem dX1_add_19 : decode cX1_add 19 = .ok (.getfield 9, 3) := by decide +kernel
theorem dX1_add_22 : decode cX1_add 22 = .ok (.aload_n 0, 1) := by decide +kernel
theorem dX1_add_23 : decode cX1_add 23 = .ok (.getfield 21, 3) := by decide +kernel
theorem dX1_add_26 : decode cX1_add 26 = .ok (.iload_n 1, 1) := by decide +kernel
theorem dX1_add_27 : decode cX1_add 27 = .ok (.iastore, 1) := by decide +kernel
theorem dX1_add_28 : decode cX1_add 28 = .ok (.aload_n 0, 1) := by decide +kernel
theorem dX1_add_29 : decode cX1_add 29 = .ok (.getfield 15, 3) := by decide +kernel
theorem dX1_add_32 : decode cX1_add 32 = .ok (.aload_n 0, 1) := by decide +kernel
theorem dX1_add_33 : decode cX1_add 33 = .ok (.getfield 21, 3) := by decide +kernel
theorem dX1_add_36 : decode cX1_add 36 = .ok (.iload_n 2, 1) := by decide +kernel
theorem dX1_add_37 : decode cX1_add 37 = .ok (.iastore, 1) := by decide +kernel
theorem dX1_add_38 : decode cX1_add 38 = .ok (.aload_n 0, 1) := by decide +kernel
theorem dX1_add_39 : decode cX1_add 39 = .ok (.getfield 18, 3) := by decide +kernel
theorem dX1_add_42 : decode cX1_add 42 = .ok (.aload_n 0, 1) := by decide +kernel
theorem dX1_add_43 : decode cX1_add 43 = .ok (.getfield 21, 3) := by decide +kernel
theorem dX1_add_46 : decode cX1_add 46 = .ok (.iload_n 3, 1) := by decide +kernel
theorem dX1_add_47 : decode cX1_add 47 = .ok (.iastore, 1) := by decide +kernel
theorem dX1_add_48 : decode cX1_add 48 = .ok (.aload_n 0, 1) := by decide +kernel
theorem dX1_add_49 : decode cX1_add 49 = .ok (.dup, 1) := by decide +kernel
theorem dX1_add_50 : decode cX1_add 50 = .ok (.getfield 21, 3) := by decide +kernel
theorem dX1_add_53 : decode cX1_add 53 = .ok (.iconst 1, 1) := by decide +kernel
theorem dX1_add_54 : decode cX1_add 54 = .ok (.iadd, 1) := by decide +kernel
theorem dX1_add_55 : decode cX1_add 55 = .ok (.putfield 21, 3) := by decide +kernel
theorem dX1_add_58 : decode cX1_add 58 = .ok (.return_, 1) := by decide +kernel
set_option maxRecDepth 20000 in
theorem ggX1_addPlainByte_X1_isThere : GoodIn wsX1_addPlainByte wsX1_isThere := goodIn_r _ [8, 1, 14, 15, 16, 17] (by decide +kernel) (by decide +kernel)
set_option maxRecDepth 20000 in
theorem gX1_addPlainByte_X1_isThere : GoodIn wsX1_addPlainByte (wsV RX1 25 RX1 yX1_isThere wsX1_isThere) := goodIn_app (goodIn_of _ (by decide +kernel)) ggX1_addPlainByte_X1_isThere
set_option maxRecDepth 20000 in
theorem ggX1_addPlainByte_X1_add : GoodIn wsX1_addPlainByte wsX1_add := goodIn_r _ [12, 1, 2, 13, 3, 14, 15, 16, 17] (by decide +kernel) (by decide +kernel)
set_option maxRecDepth 20000 in
theorem gX1_addPlainByte_X1_add : GoodIn wsX1_addPlainByte (wsV RX1 29 RX1 yX1_add wsX1_add) := goodIn_app (goodIn_of _ (by decide +kernel)) ggX1_addPlainByte_X1_add
theorem dX1_addPlainByte_0 : decode cX1_addPlainByte 0 = .ok (.aload_n 0, 1) := by decide +kernel
theorem dX1_addPlainByte_1 : decode cX1_addPlainByte 1 = .ok (.getfield 21, 3) := by decide +kernel
theorem dX1_addPlainByte_4 : decode cX1_addPlainByte 4 = .ok (.iconst 1, 1) := by decide +kernel
theorem dX1_addPlainByte_5 : decode cX1_addPlainByte 5 = .ok (.isub, 1) := by decide +kernel
theorem dX1_addPlainByte_6 : decode cX1_addPlainByte 6 = .ok (.istore_n 2, 1) := by decide +kernel
theorem dX1_addPlainByte_7 : decode cX1_addPlainByte 7 = .ok (.aload_n 0, 1) := by decide +kernel
theorem dX1_addPlainByte_8 : decode cX1_addPlainByte 8 = .ok (.iload_n 2, 1) := by decide +kernel
theorem dX1_addPlainByte_9 : decode cX1_addPlainByte 9 = .ok (.invokevirtual 25, 3) := by decide +kernel
theorem dX1_addPlainByte_12 : decode cX1_addPlainByte 12 = .ok (.ifCond .eq 26, 3) := by decide +kernel
theorem dX1_addPlainByte_15 : decode cX1_addPlainByte 15 = .ok (.aload_n 0, 1) := by decide +kernel
theorem dX1_addPlainByte_16 : decode cX1_addPlainByte 16 = .ok (.getfield 9, 3) := by decide +kernel
theorem dX1_addPlainByte_19 : decode cX1_addPlainByte 19 = .ok (.iload_n 2, 1) := by decide +kernel
theorem dX1_addPlainByte_20 : decode cX1_addPlainByte 20 = .ok (.iaload, 1) := by decide +kernel
theorem dX1_addPlainByte_21 : decode cX1_addPlainByte 21 = .ok (.iconst 2, 1) := by decide +kernel
theorem dX1_addPlainByte_22 : decode cX1_addPlainByte 22 = .ok (.if_icmp .ne 16, 3) := by decide +kernel
theorem dX1_addPlainByte_25 : decode cX1_addPlainByte 25 = .ok (.aload_n 0, 1) := by decide +kernel
theorem dX1_addPlainByte_26 : decode cX1_addPlainByte 26 = .ok (.getfield 18, 3) := by decide +kernel
theorem dX1_addPlainByte_29 : decode cX1_addPlainByte 29 = .ok (.iload_n 2, 1) := by decide +kernel
theorem dX1_addPlainByte_30 : decode cX1_addPlainByte 30 = .ok (.dup2, 1) := by decide +kernel
theorem dX1_addPlainByte_31 : decode cX1_addPlainByte 31 = .ok (.iaload, 1) := by decide +kernel
theorem dX1_addPlainByte_32 : decode cX1_addPlainByte 32 = .ok (.iconst 1, 1) := by decide +kernel
theorem dX1_addPlainByte_33 : decode cX1_addPlainByte 33 = .ok (.iadd, 1) := by decide +kernel
theorem dX1_addPlainByte_34 : decode cX1_addPlainByte 34 = .ok (.iastore, 1) := by decide +kernel
theorem dX1_addPlainByte_35 : decode cX1_addPlainByte 35 = .ok (.goto 10, 3) := by decide +kernel
theorem dX1_addPlainByte_38 : decode cX1_addPlainByte 38 = .ok (.aload_n 0, 1) := by decide +kernel
theorem dX1_addPlainByte_39 : decode cX1_addPlainByte 39 = .ok (.iconst 2, 1) := by decide +kernel
theorem dX1_addPlainByte_40 : decode cX1_addPlainByte 40 = .ok (.iload_n 1, 1) := by decide +kernel
theorem dX1_addPlainByte_41 : decode cX1_addPlainByte 41 = .ok (.iconst 1, 1) := by decide +kernel
theorem dX1_addPlainByte_42 : decode cX1_addPlainByte 42 = .ok (.invokevirtual 29, 3) := by decide +kernel
theorem dX1_addPlainByte_45 : decode cX1_addPlainByte 45 = .ok (.return_, 1) := by decide +kernel
set_option maxRecDepth 20000 in
theorem ggX1_copiedEnd_X1_kind : GoodIn wsX1_copiedEnd wsX1_kind := goodIn_r _ [10, 11, 12, 13, 14, 9, 15, 1, 26, 27, 28, 29] (by decide +kernel) (by decide +kernel)
set_option maxRecDepth 20000 in
theorem gX1_copiedEnd_X1_kind : GoodIn wsX1_copiedEnd (wsV RX1 33 RX1 yX1_kind wsX1_kind) := goodIn_app (goodIn_of _ (by decide +kernel)) ggX1_copiedEnd_X1_kind
set_option maxRecDepth 20000 in
theorem ggX1_copiedEnd_X1_begin : GoodIn wsX1_copiedEnd wsX1_begin := goodIn_r _ [19, 20, 12, 13, 14, 9, 15, 1, 26, 27, 28, 29] (by decide +kernel) (by decide +kernel)
set_option maxRecDepth 20000 in
theorem gX1_copiedEnd_X1_begin : GoodIn wsX1_copiedEnd (wsV RX1 37 RX1 yX1_begin wsX1_begin) := goodIn_app (goodIn_of _ (by decide +kernel)) ggX1_copiedEnd_X1_begin
set_option maxRecDepth 20000 in
theorem ggX1_copiedEnd_X1_length : GoodIn wsX1_copiedEnd wsX1_length := goodIn_r _ [24, 25, 12, 13, 14, 9, 15, 1, 26, 27, 28, 29] (by decide +kernel) (by decide +kernel)
set_option maxRecDepth 20000 in
theorem gX1_copiedEnd_X1_length : GoodIn wsX1_copiedEnd (wsV RX1 40 RX1 yX1_length wsX1_length) := goodIn_app (goodIn_of _ (by decide +kernel)) ggX1_copiedEnd_X1_length
theorem dX1_copiedEnd_0 : decode cX1_copiedEnd 0 = .ok (.iconst 0, 1) := by decide +kernel
theorem dX1_copiedEnd_1 : decode cX1_copiedEnd 1 = .ok (.istore_n 1, 1) := by decide +kernel
theorem dX1_copiedEnd_2 : decode cX1_copiedEnd 2 = .ok (.iconst 0, 1) := by decide +kernel
theorem dX1_copiedEnd_3 : decode cX1_copiedEnd 3 = .ok (.istore_n 2, 1) := by decide +kernel
theorem dX1_copiedEnd_4 : decode cX1_copiedEnd 4 = .ok (.iload_n 2, 1) := by decide +kernel
theorem dX1_copiedEnd_5 : decode cX1_copiedEnd 5 = .ok (.aload_n 0, 1) := by decide +kernel
theorem dX1_copiedEnd_6 : decode cX1_copiedEnd 6 = .ok (.getfield 21, 3) := by decide +kernel
theorem dX1_copiedEnd_9 : decode cX1_copiedEnd 9 = .ok (.if_icmp .ge 34, 3) := by decide +kernel
theorem dX1_copiedEnd_12 : decode cX1_copiedEnd 12 = .ok (.aload_n 0, 1) := by decide +kernel
theorem dX1_copiedEnd_13 : decode cX1_copiedEnd 13 = .ok (.iload_n 2, 1) := by decide +kernel
theorem dX1_copiedEnd_14 : decode cX1_copiedEnd 14 = .ok (.invokevirtual 33, 3) := by decide +kernel
theorem dX1_copiedEnd_17 : decode cX1_copiedEnd 17 = .ok (.iconst 1, 1) := by decide +kernel
theorem dX1_copiedEnd_18 : decode cX1_copiedEnd 18 = .ok (.if_icmp .ne 19, 3) := by decide +kernel
theorem dX1_copiedEnd_21 : decode cX1_copiedEnd 21 = .ok (.iload_n 1, 1) := by decide +kernel
theorem dX1_copiedEnd_22 : decode cX1_copiedEnd 22 = .ok (.aload_n 0, 1) := by decide +kernel
theorem dX1_copiedEnd_23 : decode cX1_copiedEnd 23 = .ok (.iload_n 2, 1) := by decide +kernel
theorem dX1_copiedEnd_24 : decode cX1_copiedEnd 24 = .ok (.invokevirtual 37, 3) := by decide +kernel
theorem dX1_copiedEnd_27 : decode cX1_copiedEnd 27 = .ok (.aload_n 0, 1) := by decide +kernel
theorem dX1_copiedEnd_28 : decode cX1_copiedEnd 28 = .ok (.iload_n 2, 1) := by decide +kernel
theorem dX1_copiedEnd_29 : decode cX1_copiedEnd 29 = .ok (.invokevirtual 40, 3) := by decide +kernel
theorem dX1_copiedEnd_32 : decode cX1_copiedEnd 32 = .ok (.iadd, 1) := by decide +kernel
theorem dX1_copiedEnd_33 : decode cX1_copiedEnd 33 = .ok (.invokestatic 43, 3) := by decide +kernel
theorem dX1_copiedEnd_36 : decode cX1_copiedEnd 36 = .ok (.istore_n 1, 1) := by decide +kernel
theorem dX1_copiedEnd_37 : decode cX1_copiedEnd 37 = .ok (.iinc 2 1, 3) := by decide +kernel
theorem dX1_copiedEnd_40 : decode cX1_copiedEnd 40 = .ok (.goto (-36), 3) := by decide +kernel
theorem dX1_copiedEnd_43 : decode cX1_copiedEnd 43 = .ok (.iload_n 1, 1) := by decide +kernel
theorem dX1_copiedEnd_44 : decode cX1_copiedEnd 44 = .ok (.ireturn, 1) := by decide +kernel
theorem dX1_isThere_0 : decode cX1_isThere 0 = .ok (.iload_n 1, 1) := by decide +kernel
theorem dX1_isThere_1 : decode cX1_isThere 1 = .ok (.ifCond .lt 22, 3) := by decide +kernel
theorem dX1_isThere_4 : decode cX1_isThere 4 = .ok (.iload_n 1, 1) := by decide +kernel
theorem dX1_isThere_5 : decode cX1_isThere 5 = .ok (.aload_n 0, 1) := by decide +kernel
theorem dX1_isThere_6 : decode cX1_isThere 6 = .ok (.getfield 21, 3) := by decide +kernel
theorem dX1_isThere_9 : decode cX1_isThere 9 = .ok (.if_icmp .ge 14, 3) := by decide +kernel
theorem dX1_isThere_12 : decode cX1_isThere 12 = .ok (.iload_n 1, 1) := by decide +kernel
theorem dX1_isThere_13 : decode cX1_isThere 13 = .ok (.sipush 133, 3) := by decide +kernel
theorem dX1_isThere_16 : decode cX1_isThere 16 = .ok (.if_icmp .ge 7, 3) := by decide +kernel
theorem dX1_isThere_19 : decode cX1_isThere 19 = .ok (.iconst 1, 1) := by decide +kernel
theorem dX1_isThere_20 : decode cX1_isThere 20 = .ok (.goto 4, 3) := by decide +kernel
theorem dX1_isThere_23 : decode cX1_isThere 23 = .ok (.iconst 0, 1) := by decide +kernel
theorem dX1_isThere_24 : decode cX1_isThere 24 = .ok (.ireturn, 1) := by decide +kernel
set_option maxRecDepth 20000 in
theorem ggX2_init_X0_init : GoodIn wsX2_init wsX0_init := goodIn_r _ [17, 18, 2, 3, 19, 20, 21, 30, 31] (by decide +kernel) (by decide +kernel)
set_option maxRecDepth 20000 in
theorem gX2_init_X0_init_n9 : GoodIn wsX2_init (wsX0_init) := ggX2_init_X0_init
set_option maxRecDepth 20000 in
theorem ggX2_init_X1_init : GoodIn wsX2_init wsX1_init := goodIn_r _ [23, 24, 2, 3, 25, 26, 27, 28, 29, 38, 39, 40, 41] (by decide +kernel) (by decide +kernel)
set_option maxRecDepth 20000 in
theorem gX2_init_X1_init_n24 : GoodIn wsX2_init (wsX1_init) := ggX2_init_X1_init
theorem dX2_init_0 : decode cX2_init 0 = .ok (.aload_n 0, 1) := by decide +kernel
theorem dX2_init_1 : decode cX2_init 1 = .ok (.invokespecial 1, 3) := by decide +kernel
theorem dX2_init_4 : decode cX2_init 4 = .ok (.aload_n 0, 1) := by decide +kernel
theorem dX2_init_5 : decode cX2_init 5 = .ok (.new 7, 3) := by decide +kernel
theorem dX2_init_8 : decode cX2_init 8 = .ok (.dup, 1) := by decide +kernel
theorem dX2_init_9 : decode cX2_init 9 = .ok (.invokespecial 9, 3) := by decide +kernel
theorem dX2_init_12 : decode cX2_init 12 = .ok (.putfield 10, 3) := by decide +kernel
theorem dX2_init_15 : decode cX2_init 15 = .ok (.aload_n 0, 1) := by decide +kernel
theorem dX2_init_16 : decode cX2_init 16 = .ok (.new 7, 3) := by decide +kernel
theorem dX2_init_19 : decode cX2_init 19 = .ok (.dup, 1) := by decide +kernel
theorem dX2_init_20 : decode cX2_init 20 = .ok (.invokespecial 9, 3) := by decide +kernel
theorem dX2_init_23 : decode cX2_init 23 = .ok (.putfield 16, 3) := by decide +kernel
theorem dX2_init_26 : decode cX2_init 26 = .ok (.aload_n 0, 1) := by decide +kernel
theorem dX2_init_27 : decode cX2_init 27 = .ok (.new 7, 3) := by decide +kernel
theorem dX2_init_30 : decode cX2_init 30 = .ok (.dup, 1) := by decide +kernel
theorem dX2_init_31 : decode cX2_init 31 = .ok (.invokespecial 9, 3) := by decide +kernel
theorem dX2_init_34 : decode cX2_init 34 = .ok (.putfield 19, 3) := by decide +kernel
theorem dX2_init_37 : decode cX2_init 37 = .ok (.aload_n 0, 1) := by decide +kernel
theorem dX2_init_38 : decode cX2_init 38 = .ok (.new 22, 3) := by decide +kernel
theorem dX2_init_41 : decode cX2_init 41 = .ok (.dup, 1) := by decide +kernel
theorem dX2_init_42 : decode cX2_init 42 = .ok (.invokespecial 24, 3) := by decide +kernel
theorem dX2_init_45 : decode cX2_init 45 = .ok (.putfield 25, 3) := by decide +kernel
theorem dX2_init_48 : decode cX2_init 48 = .ok (.aload_n 0, 1) := by decide +kernel
theorem dX2_init_49 : decode cX2_init 49 = .ok (.new 7, 3) := by decide +kernel
theorem dX2_init_52 : decode cX2_init 52 = .ok (.dup, 1) := by decide +kernel
theorem dX2_init_53 : decode cX2_init 53 = .ok (.invokespecial 9, 3) := by decide +kernel
theorem dX2_init_56 : decode cX2_init 56 = .ok (.putfield 29, 3) := by decide +kernel
theorem dX2_init_59 : decode cX2_init 59 = .ok (.aload_n 0, 1) := by decide +kernel
theorem dX2_init_60 : decode cX2_init 60 = .ok (.new 7, 3) := by decide +kernel
theorem dX2_init_63 : decode cX2_init 63 = .ok (.dup, 1) := by decide +kernel
theorem dX2_init_64 : decode cX2_init 64 = .ok (.invokespecial 9, 3) := by decide +kernel
theorem dX2_init_67 : decode cX2_init 67 = .ok (.putfield 32, 3) := by decide +kernel
theorem dX2_init_70 : decode cX2_init 70 = .ok (.return_, 1) := by decide +kernel
set_option maxRecDepth 20000 in
theorem ggX2_put_X0_length : GoodIn wsX2_put wsX0_length := goodIn_r _ [7, 8, 20, 21] (by decide +kernel) (by decide +kernel)
set_option maxRecDepth 20000 in
theorem gX2_put_X0_length : GoodIn wsX2_put (wsV RX2 35 RX0 yX0_length wsX0_length) := goodIn_app (goodIn_of _ (by decide +kernel)) ggX2_put_X0_length
set_option maxRecDepth 20000 in
theorem ggX2_put_X0_add : GoodIn wsX2_put wsX0_add := goodIn_r _ [12, 8, 13, 20, 21] (by decide +kernel) (by decide +kernel)
set_option maxRecDepth 20000 in
theorem gX2_put_X0_add : GoodIn wsX2_put (wsV RX2 39 RX0 yX0_add wsX0_add) := goodIn_app (goodIn_of _ (by decide +kernel)) ggX2_put_X0_add
theorem dX2_put_0 : decode cX2_put 0 = .ok (.iload_n 1, 1) := by decide +kernel
theorem dX2_put_1 : decode cX2_put 1 = .ok (.ifCond .eq 10, 3) := by decide +kernel
theorem dX2_put_4 : decode cX2_put 4 = .ok (.aload_n 0, 1) := by decide +kernel
theorem dX2_put_5 : decode cX2_put 5 = .ok (.getfield 16, 3) := by decide +kernel
theorem dX2_put_8 : decode cX2_put 8 = .ok (.goto 7, 3) := by decide +kernel
theorem dX2_put_11 : decode cX2_put 11 = .ok (.aload_n 0, 1) := by decide +kernel
theorem dX2_put_12 : decode cX2_put 12 = .ok (.getfield 10, 3) := by decide +kernel
theorem dX2_put_15 : decode cX2_put 15 = .ok (.astore 5, 2) := by decide +kernel
theorem dX2_put_17 : decode cX2_put 17 = .ok (.iload 4, 2) := by decide +kernel
theorem dX2_put_19 : decode cX2_put 19 = .ok (.ifCond .lt 24, 3) := by decide +kernel
theorem dX2_put_22 : decode cX2_put 22 = .ok (.iload 4, 2) := by decide +kernel
theorem dX2_put_24 : decode cX2_put 24 = .ok (.bipush 8, 2) := by decide +kernel
theorem dX2_put_26 : decode cX2_put 26 = .ok (.if_icmp .gt 17, 3) := by decide +kernel
theorem dX2_put_29 : decode cX2_put 29 = .ok (.iload 4, 2) := by decide +kernel
theorem dX2_put_31 : decode cX2_put 31 = .ok (.sipush 600, 3) := by decide +kernel
theorem dX2_put_34 : decode cX2_put 34 = .ok (.aload 5, 2) := by decide +kernel
theorem dX2_put_36 : decode cX2_put 36 = .ok (.invokevirtual 35, 3) := by decide +kernel
theorem dX2_put_39 : decode cX2_put 39 = .ok (.isub, 1) := by decide +kernel
theorem dX2_put_40 : decode cX2_put 40 = .ok (.if_icmp .le 5, 3) := by decide +kernel
theorem dX2_put_43 : decode cX2_put 43 = .ok (.iconst 0, 1) := by decide +kernel
theorem dX2_put_44 : decode cX2_put 44 = .ok (.ireturn, 1) := by decide +kernel
theorem dX2_put_45 : decode cX2_put 45 = .ok (.iload 4, 2) := by decide +kernel
theorem dX2_put_47 : decode cX2_put 47 = .ok (.iconst 1, 1) := by decide +kernel
theorem dX2_put_48 : decode cX2_put 48 = .ok (.isub, 1) := by decide +kernel
theorem dX2_put_49 : decode cX2_put 49 = .ok (.istore 6, 2) := by decide +kernel
theorem dX2_put_51 : decode cX2_put 51 = .ok (.iload 6, 2) := by decide +kernel
theorem dX2_put_53 : decode cX2_put 53 = .ok (.ifCond .lt 22, 3) := by decide +kernel
theorem dX2_put_56 : decode cX2_put 56 = .ok (.aload 5, 2) := by decide +kernel
theorem dX2_put_58 : decode cX2_put 58 = .ok (.lload_n 2, 1) := by decide +kernel
theorem dX2_put_59 : decode cX2_put 59 = .ok (.bipush 8, 2) := by decide +kernel
theorem dX2_put_61 : decode cX2_put 61 = .ok (.iload 6, 2) := by decide +kernel
theorem dX2_put_63 : decode cX2_put 63 = .ok (.imul, 1) := by decide +kernel
theorem dX2_put_64 : decode cX2_put 64 = .ok (.lushr, 1) := by decide +kernel
theorem dX2_put_65 : decode cX2_put 65 = .ok (.l2i, 1) := by decide +kernel
theorem dX2_put_66 : decode cX2_put 66 = .ok (.invokevirtual 39, 3) := by decide +kernel
theorem dX2_put_69 : decode cX2_put 69 = .ok (.iinc 6 (-1), 3) := by decide +kernel
theorem dX2_put_72 : decode cX2_put 72 = .ok (.goto (-21), 3) := by decide +kernel
theorem dX2_put_75 : decode cX2_put 75 = .ok (.iconst 1, 1) := by decide +kernel
theorem dX2_put_76 : decode cX2_put 76 = .ok (.ireturn, 1) := by decide +kernel
set_option maxRecDepth 20000 in
theorem ggX2_clear_X0_empty : GoodIn wsX2_clear wsX0_empty := goodIn_r _ [7, 8, 15, 16] (by decide +kernel) (by decide +kernel)
set_option maxRecDepth 20000 in
theorem gX2_clear_X0_empty : GoodIn wsX2_clear (wsV RX2 43 RX0 yX0_empty wsX0_empty) := goodIn_app (goodIn_of _ (by decide +kernel)) ggX2_clear_X0_empty
theorem dX2_clear_0 : decode cX2_clear 0 = .ok (.iload_n 1, 1) := by decide +kernel
theorem dX2_clear_1 : decode cX2_clear 1 = .ok (.ifCond .eq 10, 3) := by decide +kernel
theorem dX2_clear_4 : decode cX2_clear 4 = .ok (.aload_n 0, 1) := by decide +kernel
theorem dX2_clear_5 : decode cX2_clear 5 = .ok (.getfield 16, 3) := by decide +kernel
theorem dX2_clear_8 : decode cX2_clear 8 = .ok (.goto 7, 3) := by decide +kernel
theorem dX2_clear_11 : decode cX2_clear 11 = .ok (.aload_n 0, 1) := by decide +kernel
theorem dX2_clear_12 : decode cX2_clear 12 = .ok (.getfield 10, 3) := by decide +kernel
theorem dX2_clear_15 : decode cX2_clear 15 = .ok (.astore_n 2, 1) := by decide +kernel
theorem dX2_clear_16 : decode cX2_clear 16 = .ok (.aload_n 2, 1) := by decide +kernel
theorem dX2_clear_17 : decode cX2_clear 17 = .ok (.invokevirtual 43, 3) := by decide +kernel
theorem dX2_clear_20 : decode cX2_clear 20 = .ok (.return_, 1) := by decide +kernel
set_option maxRecDepth 20000 in
theorem ggX2_make_X0_empty : GoodIn wsX2_make wsX0_empty := goodIn_r _ [8, 9, 103, 104] (by decide +kernel) (by decide +kernel)
set_option maxRecDepth 20000 in
theorem gX2_make_X0_empty : GoodIn wsX2_make (wsV RX2 43 RX0 yX0_empty wsX0_empty) := goodIn_app (goodIn_of _ (by decide +kernel)) ggX2_make_X0_empty
set_option maxRecDepth 20000 in
theorem ggX2_make_X0_length : GoodIn wsX2_make wsX0_length := goodIn_r _ [13, 9, 103, 104] (by decide +kernel) (by decide +kernel)
set_option maxRecDepth 20000 in
theorem gX2_make_X0_length : GoodIn wsX2_make (wsV RX2 35 RX0 yX0_length wsX0_length) := goodIn_app (goodIn_of _ (by decide +kernel)) ggX2_make_X0_length
set_option maxRecDepth 20000 in
theorem ggX2_make_X0_addFrom : GoodIn wsX2_make wsX0_addFrom := goodIn_r _ [17, 18, 19, 20, 7, 21, 9, 22, 23, 24, 25, 26, 103, 104] (by decide +kernel) (by decide +kernel)
set_option maxRecDepth 20000 in
theorem gX2_make_X0_addFrom : GoodIn wsX2_make (wsV RX2 46 RX0 yX0_addFrom wsX0_addFrom) := goodIn_app (goodIn_of _ (by decide +kernel)) ggX2_make_X0_addFrom
set_option maxRecDepth 20000 in
theorem ggX2_make_X2_findPieces : GoodIn wsX2_make wsX2_findPieces := goodIn_r _ [31, 3, 2, 32, 33, 34, 35, 36, 37, 38, 39, 40, 41, 10, 11, 12, 7, 13, 9, 42, 43, 44, 30, 45, 46, 47, 48, 49, 50, 51, 52, 53, 54, 19, 20, 21, 22, 55, 56, 57, 58, 59, 60, 61, 62, 63, 64, 65, 66, 67, 68, 69, 70, 97, 98, 99, 100, 101, 102, 105, 106, 107, 108, 103, 104] (by decide +kernel) (by decide +kernel)
set_option maxRecDepth 20000 in
theorem gX2_make_X2_findPieces : GoodIn wsX2_make (wsV RX2 50 RX2 yX2_findPieces wsX2_findPieces) := goodIn_app (goodIn_of _ (by decide +kernel)) ggX2_make_X2_findPieces
set_option maxRecDepth 20000 in
theorem ggX2_make_X2_writeRow : GoodIn wsX2_make wsX2_writeRow := goodIn_r _ [74, 75, 3, 1, 4, 5, 6, 7, 8, 9, 76, 77, 78, 39, 79, 41, 80, 81, 82, 83, 59, 61, 62, 63, 64, 84, 24, 25, 26, 22, 85, 86, 87, 88, 69, 89, 90, 91, 92, 23, 93, 94, 95, 96, 60, 14, 15, 16, 17, 18, 19, 20, 21, 97, 98, 99, 100, 101, 102, 103, 104, 105, 106, 107, 108] (by decide +kernel) (by decide +kernel)
set_option maxRecDepth 20000 in
theorem gX2_make_X2_writeRow : GoodIn wsX2_make (wsV RX2 53 RX2 yX2_writeRow wsX2_writeRow) := goodIn_app (goodIn_of _ (by decide +kernel)) ggX2_make_X2_writeRow
set_option maxRecDepth 20000 in
theorem ggX2_make_X1_number : GoodIn wsX2_make wsX1_number := goodIn_r _ [79, 41, 105, 106, 107, 108] (by decide +kernel) (by decide +kernel)
set_option maxRecDepth 20000 in
theorem gX2_make_X1_number : GoodIn wsX2_make (wsV RX2 56 RX1 yX1_number wsX1_number) := goodIn_app (goodIn_of _ (by decide +kernel)) ggX2_make_X1_number
theorem dX2_make_0 : decode cX2_make 0 = .ok (.aload_n 0, 1) := by decide +kernel
theorem dX2_make_1 : decode cX2_make 1 = .ok (.getfield 29, 3) := by decide +kernel
theorem dX2_make_4 : decode cX2_make 4 = .ok (.invokevirtual 43, 3) := by decide +kernel
theorem dX2_make_7 : decode cX2_make 7 = .ok (.aload_n 0, 1) := by decide +kernel
theorem dX2_make_8 : decode cX2_make 8 = .ok (.getfield 29, 3) := by decide +kernel
theorem dX2_make_11 : decode cX2_make 11 = .ok (.aload_n 0, 1) := by decide +kernel
theorem dX2_make_12 : decode cX2_make 12 = .ok (.getfield 16, 3) := by decide +kernel
theorem dX2_make_15 : decode cX2_make 15 = .ok (.iconst 0, 1) := by decide +kernel
theorem dX2_make_16 : decode cX2_make 16 = .ok (.aload_n 0, 1) := by decide +kernel
theorem dX2_make_17 : decode cX2_make 17 = .ok (.getfield 16, 3) := by decide +kernel
theorem dX2_make_20 : decode cX2_make 20 = .ok (.invokevirtual 35, 3) := by decide +kernel
theorem dX2_make_23 : decode cX2_make 23 = .ok (.invokevirtual 46, 3) := by decide +kernel
theorem dX2_make_26 : decode cX2_make 26 = .ok (.aload_n 0, 1) := by decide +kernel
theorem dX2_make_27 : decode cX2_make 27 = .ok (.invokevirtual 50, 3) := by decide +kernel
theorem dX2_make_30 : decode cX2_make 30 = .ok (.aload_n 0, 1) := by decide +kernel
theorem dX2_make_31 : decode cX2_make 31 = .ok (.invokevirtual 53, 3) := by decide +kernel
theorem dX2_make_34 : decode cX2_make 34 = .ok (.aload_n 0, 1) := by decide +kernel
theorem dX2_make_35 : decode cX2_make 35 = .ok (.getfield 25, 3) := by decide +kernel
theorem dX2_make_38 : decode cX2_make 38 = .ok (.invokevirtual 56, 3) := by decide +kernel
theorem dX2_make_41 : decode cX2_make 41 = .ok (.ireturn, 1) := by decide +kernel
set_option maxRecDepth 20000 in
theorem ggX2_piece_X1_kind : GoodIn wsX2_piece wsX1_kind := goodIn_r _ [6, 7, 8, 9, 10, 5, 11, 12, 29, 30, 31, 32] (by decide +kernel) (by decide +kernel)
set_option maxRecDepth 20000 in
theorem gX2_piece_X1_kind : GoodIn wsX2_piece (wsV RX2 59 RX1 yX1_kind wsX1_kind) := goodIn_app (goodIn_of _ (by decide +kernel)) ggX2_piece_X1_kind
set_option maxRecDepth 20000 in
theorem ggX2_piece_X1_begin : GoodIn wsX2_piece wsX1_begin := goodIn_r _ [16, 17, 8, 9, 10, 5, 11, 12, 29, 30, 31, 32] (by decide +kernel) (by decide +kernel)
set_option maxRecDepth 20000 in
theorem gX2_piece_X1_begin : GoodIn wsX2_piece (wsV RX2 63 RX1 yX1_begin wsX1_begin) := goodIn_app (goodIn_of _ (by decide +kernel)) ggX2_piece_X1_begin
set_option maxRecDepth 20000 in
theorem ggX2_piece_X1_length : GoodIn wsX2_piece wsX1_length := goodIn_r _ [21, 22, 8, 9, 10, 5, 11, 12, 29, 30, 31, 32] (by decide +kernel) (by decide +kernel)
set_option maxRecDepth 20000 in
theorem gX2_piece_X1_length : GoodIn wsX2_piece (wsV RX2 66 RX1 yX1_length wsX1_length) := goodIn_app (goodIn_of _ (by decide +kernel)) ggX2_piece_X1_length
theorem dX2_piece_0 : decode cX2_piece 0 = .ok (.iload_n 2, 1) := by decide +kernel
theorem dX2_piece_1 : decode cX2_piece 1 = .ok (.tableswitch 54 0 2 #[27, 36, 45], 27) := by decide +kernel
theorem dX2_piece_28 : decode cX2_piece 28 = .ok (.aload_n 0, 1) := by decide +kernel
theorem dX2_piece_29 : decode cX2_piece 29 = .ok (.getfield 25, 3) := by decide +kernel
theorem dX2_piece_32 : decode cX2_piece 32 = .ok (.iload_n 1, 1) := by decide +kernel
theorem dX2_piece_33 : decode cX2_piece 33 = .ok (.invokevirtual 59, 3) := by decide +kernel
theorem dX2_piece_36 : decode cX2_piece 36 = .ok (.ireturn, 1) := by decide +kernel
theorem dX2_piece_37 : decode cX2_piece 37 = .ok (.aload_n 0, 1) := by decide +kernel
theorem dX2_piece_38 : decode cX2_piece 38 = .ok (.getfield 25, 3) := by decide +kernel
theorem dX2_piece_41 : decode cX2_piece 41 = .ok (.iload_n 1, 1) := by decide +kernel
theorem dX2_piece_42 : decode cX2_piece 42 = .ok (.invokevirtual 63, 3) := by decide +kernel
theorem dX2_piece_45 : decode cX2_piece 45 = .ok (.ireturn, 1) := by decide +kernel
theorem dX2_piece_46 : decode cX2_piece 46 = .ok (.aload_n 0, 1) := by decide +kernel
theorem dX2_piece_47 : decode cX2_piece 47 = .ok (.getfield 25, 3) := by decide +kernel
theorem dX2_piece_50 : decode cX2_piece 50 = .ok (.iload_n 1, 1) := by decide +kernel
theorem dX2_piece_51 : decode cX2_piece 51 = .ok (.invokevirtual 66, 3) := by decide +kernel
theorem dX2_piece_54 : decode cX2_piece 54 = .ok (.ireturn, 1) := by decide +kernel
theorem dX2_piece_55 : decode cX2_piece 55 = .ok (.iconst (-1), 1) := by decide +kernel
theorem dX2_piece_56 : decode cX2_piece 56 = .ok (.ireturn, 1) := by decide +kernel
set_option maxRecDepth 20000 in
theorem ggX2_size_X0_length : GoodIn wsX2_size wsX0_length := goodIn_r _ [6, 7, 14, 15] (by decide +kernel) (by decide +kernel)
set_option maxRecDepth 20000 in
theorem gX2_size_X0_length : GoodIn wsX2_size (wsV RX2 35 RX0 yX0_length wsX0_length) := goodIn_app (goodIn_of _ (by decide +kernel)) ggX2_size_X0_length
theorem dX2_size_0 : decode cX2_size 0 = .ok (.aload_n 0, 1) := by decide +kernel
theorem dX2_size_1 : decode cX2_size 1 = .ok (.getfield 32, 3) := by decide +kernel
theorem dX2_size_4 : decode cX2_size 4 = .ok (.invokevirtual 35, 3) := by decide +kernel
theorem dX2_size_7 : decode cX2_size 7 = .ok (.ireturn, 1) := by decide +kernel
set_option maxRecDepth 20000 in
theorem ggX2_way_X0_at : GoodIn wsX2_way wsX0_at := goodIn_r _ [6, 7, 8, 15, 16] (by decide +kernel) (by decide +kernel)
set_option maxRecDepth 20000 in
theorem gX2_way_X0_at : GoodIn wsX2_way (wsV RX2 68 RX0 yX0_at wsX0_at) := goodIn_app (goodIn_of _ (by decide +kernel)) ggX2_way_X0_at
theorem dX2_way_0 : decode cX2_way 0 = .ok (.aload_n 0, 1) := by decide +kernel
theorem dX2_way_1 : decode cX2_way 1 = .ok (.getfield 32, 3) := by decide +kernel
theorem dX2_way_4 : decode cX2_way 4 = .ok (.iload_n 1, 1) := by decide +kernel
theorem dX2_way_5 : decode cX2_way 5 = .ok (.invokevirtual 68, 3) := by decide +kernel
theorem dX2_way_8 : decode cX2_way 8 = .ok (.ireturn, 1) := by decide +kernel
set_option maxRecDepth 20000 in
theorem ggX2_go_X1_copiedEnd : GoodIn wsX2_go wsX1_copiedEnd := goodIn_r _ [11, 12, 13, 14, 15, 16, 17, 18, 19, 10, 20, 21, 22, 23, 24, 25, 26, 27, 28, 29, 30, 31, 32, 33, 34, 35, 72, 73, 74, 75] (by decide +kernel) (by decide +kernel)
set_option maxRecDepth 20000 in
theorem gX2_go_X1_copiedEnd : GoodIn wsX2_go (wsV RX2 71 RX1 yX1_copiedEnd wsX1_copiedEnd) := goodIn_app (goodIn_of _ (by decide +kernel)) ggX2_go_X1_copiedEnd
set_option maxRecDepth 20000 in
theorem ggX2_go_X0_length : GoodIn wsX2_go wsX0_length := goodIn_r _ [40, 41, 76, 77] (by decide +kernel) (by decide +kernel)
set_option maxRecDepth 20000 in
theorem gX2_go_X0_length : GoodIn wsX2_go (wsV RX2 35 RX0 yX0_length wsX0_length) := goodIn_app (goodIn_of _ (by decide +kernel)) ggX2_go_X0_length
set_option maxRecDepth 20000 in
theorem ggX2_go_X0_empty : GoodIn wsX2_go wsX0_empty := goodIn_r _ [45, 41, 76, 77] (by decide +kernel) (by decide +kernel)
set_option maxRecDepth 20000 in
theorem gX2_go_X0_empty : GoodIn wsX2_go (wsV RX2 43 RX0 yX0_empty wsX0_empty) := goodIn_app (goodIn_of _ (by decide +kernel)) ggX2_go_X0_empty
set_option maxRecDepth 20000 in
theorem ggX2_go_X1_number : GoodIn wsX2_go wsX1_number := goodIn_r _ [49, 12, 72, 73, 74, 75] (by decide +kernel) (by decide +kernel)
set_option maxRecDepth 20000 in
theorem gX2_go_X1_number : GoodIn wsX2_go (wsV RX2 56 RX1 yX1_number wsX1_number) := goodIn_app (goodIn_of _ (by decide +kernel)) ggX2_go_X1_number
set_option maxRecDepth 20000 in
theorem ggX2_go_X1_kind : GoodIn wsX2_go wsX1_kind := goodIn_r _ [20, 21, 22, 23, 24, 10, 25, 12, 72, 73, 74, 75] (by decide +kernel) (by decide +kernel)
set_option maxRecDepth 20000 in
theorem gX2_go_X1_kind : GoodIn wsX2_go (wsV RX2 59 RX1 yX1_kind wsX1_kind) := goodIn_app (goodIn_of _ (by decide +kernel)) ggX2_go_X1_kind
set_option maxRecDepth 20000 in
theorem ggX2_go_X1_begin : GoodIn wsX2_go wsX1_begin := goodIn_r _ [29, 30, 22, 23, 24, 10, 25, 12, 72, 73, 74, 75] (by decide +kernel) (by decide +kernel)
set_option maxRecDepth 20000 in
theorem gX2_go_X1_begin : GoodIn wsX2_go (wsV RX2 63 RX1 yX1_begin wsX1_begin) := goodIn_app (goodIn_of _ (by decide +kernel)) ggX2_go_X1_begin
set_option maxRecDepth 20000 in
theorem ggX2_go_X1_length : GoodIn wsX2_go wsX1_length := goodIn_r _ [34, 35, 22, 23, 24, 10, 25, 12, 72, 73, 74, 75] (by decide +kernel) (by decide +kernel)
set_option maxRecDepth 20000 in
theorem gX2_go_X1_length : GoodIn wsX2_go (wsV RX2 66 RX1 yX1_length wsX1_length) := goodIn_app (goodIn_of _ (by decide +kernel)) ggX2_go_X1_length
set_option maxRecDepth 20000 in
theorem ggX2_go_X0_addFrom : GoodIn wsX2_go wsX0_addFrom := goodIn_r _ [56, 57, 58, 59, 39, 60, 41, 61, 62, 63, 64, 65, 76, 77] (by decide +kernel) (by decide +kernel)
set_option maxRecDepth 20000 in
theorem gX2_go_X0_addFrom : GoodIn wsX2_go (wsV RX2 46 RX0 yX0_addFrom wsX0_addFrom) := goodIn_app (goodIn_of _ (by decide +kernel)) ggX2_go_X0_addFrom
theorem dX2_go_0 : decode cX2_go 0 = .ok (.aload_n 0, 1) := by decide +kernel
theorem dX2_go_1 : decode cX2_go 1 = .ok (.getfield 25, 3) := by decide +kernel
theorem dX2_go_4 : decode cX2_go 4 = .ok (.invokevirtual 71, 3) := by decide +kernel
theorem dX2_go_7 : decode cX2_go 7 = .ok (.aload_n 0, 1) := by decide +kernel
theorem dX2_go_8 : decode cX2_go 8 = .ok (.getfield 10, 3) := by decide +kernel
theorem dX2_go_11 : decode cX2_go 11 = .ok (.invokevirtual 35, 3) := by decide +kernel
theorem dX2_go_14 : decode cX2_go 14 = .ok (.if_icmp .le 13, 3) := by decide +kernel
theorem dX2_go_17 : decode cX2_go 17 = .ok (.new 74, 3) := by decide +kernel
theorem dX2_go_20 : decode cX2_go 20 = .ok (.dup, 1) := by decide +kernel
theorem dX2_go_21 : decode cX2_go 21 = .ok (.ldc 76, 2) := by decide +kernel
theorem dX2_go_23 : decode cX2_go 23 = .ok (.invokespecial 78, 3) := by decide +kernel
theorem dX2_go_26 : decode cX2_go 26 = .ok (.athrow, 1) := by decide +kernel
theorem dX2_go_27 : decode cX2_go 27 = .ok (.aload_n 0, 1) := by decide +kernel
theorem dX2_go_28 : decode cX2_go 28 = .ok (.getfield 19, 3) := by decide +kernel
theorem dX2_go_31 : decode cX2_go 31 = .ok (.invokevirtual 43, 3) := by decide +kernel
theorem dX2_go_34 : decode cX2_go 34 = .ok (.iconst 0, 1) := by decide +kernel
theorem dX2_go_35 : decode cX2_go 35 = .ok (.istore_n 1, 1) := by decide +kernel
theorem dX2_go_36 : decode cX2_go 36 = .ok (.iload_n 1, 1) := by decide +kernel
theorem dX2_go_37 : decode cX2_go 37 = .ok (.aload_n 0, 1) := by decide +kernel
theorem dX2_go_38 : decode cX2_go 38 = .ok (.getfield 25, 3) := by decide +kernel
theorem dX2_go_41 : decode cX2_go 41 = .ok (.invokevirtual 56, 3) := by decide +kernel
theorem dX2_go_44 : decode cX2_go 44 = .ok (.if_icmp .ge 57, 3) := by decide +kernel
theorem dX2_go_47 : decode cX2_go 47 = .ok (.aload_n 0, 1) := by decide +kernel
theorem dX2_go_48 : decode cX2_go 48 = .ok (.getfield 25, 3) := by decide +kernel
theorem dX2_go_51 : decode cX2_go 51 = .ok (.iload_n 1, 1) := by decide +kernel
theorem dX2_go_52 : decode cX2_go 52 = .ok (.invokevirtual 59, 3) := by decide +kernel
theorem dX2_go_55 : decode cX2_go 55 = .ok (.iconst 1, 1) := by decide +kernel
theorem dX2_go_56 : decode cX2_go 56 = .ok (.if_icmp .ne 10, 3) := by decide +kernel
theorem dX2_go_59 : decode cX2_go 59 = .ok (.aload_n 0, 1) := by decide +kernel
theorem dX2_go_60 : decode cX2_go 60 = .ok (.getfield 10, 3) := by decide +kernel
theorem dX2_go_63 : decode cX2_go 63 = .ok (.goto 7, 3) := by decide +kernel
theorem dX2_go_66 : decode cX2_go 66 = .ok (.aload_n 0, 1) := by decide +kernel
theorem dX2_go_67 : decode cX2_go 67 = .ok (.getfield 29, 3) := by decide +kernel
theorem dX2_go_70 : decode cX2_go 70 = .ok (.astore_n 2, 1) := by decide +kernel
theorem dX2_go_71 : decode cX2_go 71 = .ok (.aload_n 0, 1) := by decide +kernel
theorem dX2_go_72 : decode cX2_go 72 = .ok (.getfield 19, 3) := by decide +kernel
theorem dX2_go_75 : decode cX2_go 75 = .ok (.aload_n 2, 1) := by decide +kernel
theorem dX2_go_76 : decode cX2_go 76 = .ok (.aload_n 0, 1) := by decide +kernel
theorem dX2_go_77 : decode cX2_go 77 = .ok (.getfield 25, 3) := by decide +kernel
theorem dX2_go_80 : decode cX2_go 80 = .ok (.iload_n 1, 1) := by decide +kernel
theorem dX2_go_81 : decode cX2_go 81 = .ok (.invokevirtual 63, 3) := by decide +kernel
theorem dX2_go_84 : decode cX2_go 84 = .ok (.aload_n 0, 1) := by decide +kernel
theorem dX2_go_85 : decode cX2_go 85 = .ok (.getfield 25, 3) := by decide +kernel
theorem dX2_go_88 : decode cX2_go 88 = .ok (.iload_n 1, 1) := by decide +kernel
theorem dX2_go_89 : decode cX2_go 89 = .ok (.invokevirtual 66, 3) := by decide +kernel
theorem dX2_go_92 : decode cX2_go 92 = .ok (.invokevirtual 46, 3) := by decide +kernel
theorem dX2_go_95 : decode cX2_go 95 = .ok (.iinc 1 1, 3) := by decide +kernel
theorem dX2_go_98 : decode cX2_go 98 = .ok (.goto (-62), 3) := by decide +kernel
theorem dX2_go_101 : decode cX2_go 101 = .ok (.aload_n 0, 1) := by decide +kernel
theorem dX2_go_102 : decode cX2_go 102 = .ok (.getfield 19, 3) := by decide +kernel
theorem dX2_go_105 : decode cX2_go 105 = .ok (.invokevirtual 35, 3) := by decide +kernel
theorem dX2_go_108 : decode cX2_go 108 = .ok (.ireturn, 1) := by decide +kernel
set_option maxRecDepth 20000 in
theorem ggX2_result_X0_at : GoodIn wsX2_result wsX0_at := goodIn_r _ [6, 7, 8, 15, 16] (by decide +kernel) (by decide +kernel)
set_option maxRecDepth 20000 in
theorem gX2_result_X0_at : GoodIn wsX2_result (wsV RX2 68 RX0 yX0_at wsX0_at) := goodIn_app (goodIn_of _ (by decide +kernel)) ggX2_result_X0_at
theorem dX2_result_0 : decode cX2_result 0 = .ok (.aload_n 0, 1) := by decide +kernel
theorem dX2_result_1 : decode cX2_result 1 = .ok (.getfield 19, 3) := by decide +kernel
theorem dX2_result_4 : decode cX2_result 4 = .ok (.iload_n 1, 1) := by decide +kernel
theorem dX2_result_5 : decode cX2_result 5 = .ok (.invokevirtual 68, 3) := by decide +kernel
theorem dX2_result_8 : decode cX2_result 8 = .ok (.ireturn, 1) := by decide +kernel
set_option maxRecDepth 20000 in
theorem ggX2_count_X0_length : GoodIn wsX2_count wsX0_length := goodIn_r _ [8, 9, 16, 17] (by decide +kernel) (by decide +kernel)
set_option maxRecDepth 20000 in
theorem gX2_count_X0_length : GoodIn wsX2_count (wsV RX2 35 RX0 yX0_length wsX0_length) := goodIn_app (goodIn_of _ (by decide +kernel)) ggX2_count_X0_length
theorem dX2_count_0 : decode cX2_count 0 = .ok (.iload_n 1, 1) := by decide +kernel
theorem dX2_count_1 : decode cX2_count 1 = .ok (.tableswitch 51 0 2 #[27, 35, 43], 27) := by decide +kernel
theorem dX2_count_28 : decode cX2_count 28 = .ok (.aload_n 0, 1) := by decide +kernel
theorem dX2_count_29 : decode cX2_count 29 = .ok (.getfield 10, 3) := by decide +kernel
theorem dX2_count_32 : decode cX2_count 32 = .ok (.invokevirtual 35, 3) := by decide +kernel
theorem dX2_count_35 : decode cX2_count 35 = .ok (.ireturn, 1) := by decide +kernel
theorem dX2_count_36 : decode cX2_count 36 = .ok (.aload_n 0, 1) := by decide +kernel
theorem dX2_count_37 : decode cX2_count 37 = .ok (.getfield 16, 3) := by decide +kernel
theorem dX2_count_40 : decode cX2_count 40 = .ok (.invokevirtual 35, 3) := by decide +kernel
theorem dX2_count_43 : decode cX2_count 43 = .ok (.ireturn, 1) := by decide +kernel
theorem dX2_count_44 : decode cX2_count 44 = .ok (.aload_n 0, 1) := by decide +kernel
theorem dX2_count_45 : decode cX2_count 45 = .ok (.getfield 19, 3) := by decide +kernel
theorem dX2_count_48 : decode cX2_count 48 = .ok (.invokevirtual 35, 3) := by decide +kernel
theorem dX2_count_51 : decode cX2_count 51 = .ok (.ireturn, 1) := by decide +kernel
theorem dX2_count_52 : decode cX2_count 52 = .ok (.iconst (-1), 1) := by decide +kernel
theorem dX2_count_53 : decode cX2_count 53 = .ok (.ireturn, 1) := by decide +kernel
set_option maxRecDepth 20000 in
theorem ggX2_findPieces_X1_empty : GoodIn wsX2_findPieces wsX1_empty := goodIn_r _ [11, 12, 59, 60, 61, 62] (by decide +kernel) (by decide +kernel)
set_option maxRecDepth 20000 in
theorem gX2_findPieces_X1_empty : GoodIn wsX2_findPieces (wsV RX2 81 RX1 yX1_empty wsX1_empty) := goodIn_app (goodIn_of _ (by decide +kernel)) ggX2_findPieces_X1_empty
set_option maxRecDepth 20000 in
theorem ggX2_findPieces_X0_length : GoodIn wsX2_findPieces wsX0_length := goodIn_r _ [17, 18, 63, 64] (by decide +kernel) (by decide +kernel)
set_option maxRecDepth 20000 in
theorem gX2_findPieces_X0_length : GoodIn wsX2_findPieces (wsV RX2 35 RX0 yX0_length wsX0_length) := goodIn_app (goodIn_of _ (by decide +kernel)) ggX2_findPieces_X0_length
set_option maxRecDepth 20000 in
theorem ggX2_findPieces_X2_longestBlock : GoodIn wsX2_findPieces wsX2_longestBlock := goodIn_r _ [23, 24, 13, 14, 15, 16, 17, 18, 25, 26, 27, 22, 28, 2, 29, 30, 5, 31, 32, 33, 34, 35, 36, 53, 54, 55, 56, 57, 58, 63, 64] (by decide +kernel) (by decide +kernel)
set_option maxRecDepth 20000 in
theorem gX2_findPieces_X2_longestBlock : GoodIn wsX2_findPieces (wsV RX2 82 RX2 yX2_longestBlock wsX2_longestBlock) := goodIn_app (goodIn_of _ (by decide +kernel)) ggX2_findPieces_X2_longestBlock
set_option maxRecDepth 20000 in
theorem ggX2_findPieces_X1_addPlainByte : GoodIn wsX2_findPieces wsX1_addPlainByte := goodIn_r _ [40, 12, 41, 42, 43, 44, 45, 10, 46, 47, 48, 49, 50, 51, 59, 60, 61, 62] (by decide +kernel) (by decide +kernel)
set_option maxRecDepth 20000 in
theorem gX2_findPieces_X1_addPlainByte : GoodIn wsX2_findPieces (wsV RX2 85 RX1 yX1_addPlainByte wsX1_addPlainByte) := goodIn_app (goodIn_of _ (by decide +kernel)) ggX2_findPieces_X1_addPlainByte
set_option maxRecDepth 20000 in
theorem ggX2_findPieces_X2_alike : GoodIn wsX2_findPieces wsX2_alike := goodIn_r _ [28, 24, 2, 29, 30, 5, 31, 13, 14, 15, 16, 17, 18, 32, 33, 34, 35, 36, 53, 54, 55, 56, 57, 58, 63, 64] (by decide +kernel) (by decide +kernel)
set_option maxRecDepth 20000 in
theorem gX2_findPieces_X2_alike : GoodIn wsX2_findPieces (wsV RX2 88 RX2 yX2_alike wsX2_alike) := goodIn_app (goodIn_of _ (by decide +kernel)) ggX2_findPieces_X2_alike
set_option maxRecDepth 20000 in
theorem ggX2_findPieces_X1_add : GoodIn wsX2_findPieces wsX1_add := goodIn_r _ [50, 12, 41, 51, 42, 59, 60, 61, 62] (by decide +kernel) (by decide +kernel)
set_option maxRecDepth 20000 in
theorem gX2_findPieces_X1_add : GoodIn wsX2_findPieces (wsV RX2 92 RX1 yX1_add wsX1_add) := goodIn_app (goodIn_of _ (by decide +kernel)) ggX2_findPieces_X1_add
theorem dX2_findPieces_0 : decode cX2_findPieces 0 = .ok (.aload_n 0, 1) := by decide +kernel
theorem dX2_findPieces_1 : decode cX2_findPieces 1 = .ok (.getfield 25, 3) := by decide +kernel
theorem dX2_findPieces_4 : decode cX2_findPieces 4 = .ok (.invokevirtual 81, 3) := by decide +kernel
theorem dX2_findPieces_7 : decode cX2_findPieces 7 = .ok (.iconst 0, 1) := by decide +kernel
theorem dX2_findPieces_8 : decode cX2_findPieces 8 = .ok (.istore_n 1, 1) := by decide +kernel
theorem dX2_findPieces_9 : decode cX2_findPieces 9 = .ok (.iload_n 1, 1) := by decide +kernel
theorem dX2_findPieces_10 : decode cX2_findPieces 10 = .ok (.aload_n 0, 1) := by decide +kernel
theorem dX2_findPieces_11 : decode cX2_findPieces 11 = .ok (.getfield 16, 3) := by decide +kernel
theorem dX2_findPieces_14 : decode cX2_findPieces 14 = .ok (.invokevirtual 35, 3) := by decide +kernel
theorem dX2_findPieces_17 : decode cX2_findPieces 17 = .ok (.if_icmp .ge 57, 3) := by decide +kernel
theorem dX2_findPieces_20 : decode cX2_findPieces 20 = .ok (.aload_n 0, 1) := by decide +kernel
theorem dX2_findPieces_21 : decode cX2_findPieces 21 = .ok (.iload_n 1, 1) := by decide +kernel
theorem dX2_findPieces_22 : decode cX2_findPieces 22 = .ok (.invokevirtual 82, 3) := by decide +kernel
theorem dX2_findPieces_25 : decode cX2_findPieces 25 = .ok (.istore_n 2, 1) := by decide +kernel
theorem dX2_findPieces_26 : decode cX2_findPieces 26 = .ok (.iload_n 2, 1) := by decide +kernel
theorem dX2_findPieces_27 : decode cX2_findPieces 27 = .ok (.iconst (-1), 1) := by decide +kernel
theorem dX2_findPieces_28 : decode cX2_findPieces 28 = .ok (.if_icmp .ne 17, 3) := by decide +kernel
theorem dX2_findPieces_31 : decode cX2_findPieces 31 = .ok (.aload_n 0, 1) := by decide +kernel
theorem dX2_findPieces_32 : decode cX2_findPieces 32 = .ok (.getfield 25, 3) := by decide +kernel
theorem dX2_findPieces_35 : decode cX2_findPieces 35 = .ok (.iload_n 1, 1) := by decide +kernel
theorem dX2_findPieces_36 : decode cX2_findPieces 36 = .ok (.invokevirtual 85, 3) := by decide +kernel
theorem dX2_findPieces_39 : decode cX2_findPieces 39 = .ok (.iinc 1 1, 3) := by decide +kernel
theorem dX2_findPieces_42 : decode cX2_findPieces 42 = .ok (.goto 29, 3) := by decide +kernel
theorem dX2_findPieces_45 : decode cX2_findPieces 45 = .ok (.aload_n 0, 1) := by decide +kernel
theorem dX2_findPieces_46 : decode cX2_findPieces 46 = .ok (.iload_n 2, 1) := by decide +kernel
theorem dX2_findPieces_47 : decode cX2_findPieces 47 = .ok (.iload_n 1, 1) := by decide +kernel
theorem dX2_findPieces_48 : decode cX2_findPieces 48 = .ok (.invokevirtual 88, 3) := by decide +kernel
theorem dX2_findPieces_51 : decode cX2_findPieces 51 = .ok (.istore_n 3, 1) := by decide +kernel
theorem dX2_findPieces_52 : decode cX2_findPieces 52 = .ok (.aload_n 0, 1) := by decide +kernel
theorem dX2_findPieces_53 : decode cX2_findPieces 53 = .ok (.getfield 25, 3) := by decide +kernel
theorem dX2_findPieces_56 : decode cX2_findPieces 56 = .ok (.iconst 1, 1) := by decide +kernel
theorem dX2_findPieces_57 : decode cX2_findPieces 57 = .ok (.iload_n 2, 1) := by decide +kernel
theorem dX2_findPieces_58 : decode cX2_findPieces 58 = .ok (.iload_n 3, 1) := by decide +kernel
theorem dX2_findPieces_59 : decode cX2_findPieces 59 = .ok (.invokevirtual 92, 3) := by decide +kernel
theorem dX2_findPieces_62 : decode cX2_findPieces 62 = .ok (.iload_n 1, 1) := by decide +kernel
theorem dX2_findPieces_63 : decode cX2_findPieces 63 = .ok (.iload_n 3, 1) := by decide +kernel
theorem dX2_findPieces_64 : decode cX2_findPieces 64 = .ok (.bipush 8, 2) := by decide +kernel
theorem dX2_findPieces_66 : decode cX2_findPieces 66 = .ok (.invokestatic 95, 3) := by decide +kernel
theorem dX2_findPieces_69 : decode cX2_findPieces 69 = .ok (.iadd, 1) := by decide +kernel
theorem dX2_findPieces_70 : decode cX2_findPieces 70 = .ok (.istore_n 1, 1) := by decide +kernel
theorem dX2_findPieces_71 : decode cX2_findPieces 71 = .ok (.goto (-62), 3) := by decide +kernel
theorem dX2_findPieces_74 : decode cX2_findPieces 74 = .ok (.return_, 1) := by decide +kernel
set_option maxRecDepth 20000 in
theorem ggX2_longestBlock_X0_length : GoodIn wsX2_longestBlock wsX0_length := goodIn_r _ [6, 7, 29, 30] (by decide +kernel) (by decide +kernel)
set_option maxRecDepth 20000 in
theorem gX2_longestBlock_X0_length : GoodIn wsX2_longestBlock (wsV RX2 35 RX0 yX0_length wsX0_length) := goodIn_app (goodIn_of _ (by decide +kernel)) ggX2_longestBlock_X0_length
set_option maxRecDepth 20000 in
theorem ggX2_longestBlock_X2_alike : GoodIn wsX2_longestBlock wsX2_alike := goodIn_r _ [12, 1, 13, 14, 15, 16, 17, 2, 3, 4, 5, 6, 7, 18, 19, 20, 21, 22, 23, 24, 25, 26, 27, 28, 29, 30] (by decide +kernel) (by decide +kernel)
set_option maxRecDepth 20000 in
theorem gX2_longestBlock_X2_alike : GoodIn wsX2_longestBlock (wsV RX2 88 RX2 yX2_alike wsX2_alike) := goodIn_app (goodIn_of _ (by decide +kernel)) ggX2_longestBlock_X2_alike
theorem dX2_longestBlock_0 : decode cX2_longestBlock 0 = .ok (.iconst (-1), 1) := by decide +kernel
theorem dX2_longestBlock_1 : decode cX2_longestBlock 1 = .ok (.istore_n 2, 1) := by decide +kernel
theorem dX2_longestBlock_2 : decode cX2_longestBlock 2 = .ok (.bipush 7, 2) := by decide +kernel
theorem dX2_longestBlock_4 : decode cX2_longestBlock 4 = .ok (.istore_n 3, 1) := by decide +kernel
theorem dX2_longestBlock_5 : decode cX2_longestBlock 5 = .ok (.iconst 0, 1) := by decide +kernel
theorem dX2_longestBlock_6 : decode cX2_longestBlock 6 = .ok (.istore 4, 2) := by decide +kernel
theorem dX2_longestBlock_8 : decode cX2_longestBlock 8 = .ok (.iload 4, 2) := by decide +kernel
theorem dX2_longestBlock_10 : decode cX2_longestBlock 10 = .ok (.bipush 8, 2) := by decide +kernel
theorem dX2_longestBlock_12 : decode cX2_longestBlock 12 = .ok (.iadd, 1) := by decide +kernel
theorem dX2_longestBlock_13 : decode cX2_longestBlock 13 = .ok (.aload_n 0, 1) := by decide +kernel
theorem dX2_longestBlock_14 : decode cX2_longestBlock 14 = .ok (.getfield 10, 3) := by decide +kernel
theorem dX2_longestBlock_17 : decode cX2_longestBlock 17 = .ok (.invokevirtual 35, 3) := by decide +kernel
theorem dX2_longestBlock_20 : decode cX2_longestBlock 20 = .ok (.if_icmp .gt 30, 3) := by decide +kernel
theorem dX2_longestBlock_23 : decode cX2_longestBlock 23 = .ok (.aload_n 0, 1) := by decide +kernel
theorem dX2_longestBlock_24 : decode cX2_longestBlock 24 = .ok (.iload 4, 2) := by decide +kernel
theorem dX2_longestBlock_26 : decode cX2_longestBlock 26 = .ok (.iload_n 1, 1) := by decide +kernel
theorem dX2_longestBlock_27 : decode cX2_longestBlock 27 = .ok (.invokevirtual 88, 3) := by decide +kernel
theorem dX2_longestBlock_30 : decode cX2_longestBlock 30 = .ok (.istore 5, 2) := by decide +kernel
theorem dX2_longestBlock_32 : decode cX2_longestBlock 32 = .ok (.iload 5, 2) := by decide +kernel
theorem dX2_longestBlock_34 : decode cX2_longestBlock 34 = .ok (.iload_n 3, 1) := by decide +kernel
theorem dX2_longestBlock_35 : decode cX2_longestBlock 35 = .ok (.if_icmp .le 9, 3) := by decide +kernel
theorem dX2_longestBlock_38 : decode cX2_longestBlock 38 = .ok (.iload 5, 2) := by decide +kernel
theorem dX2_longestBlock_40 : decode cX2_longestBlock 40 = .ok (.istore_n 3, 1) := by decide +kernel
theorem dX2_longestBlock_41 : decode cX2_longestBlock 41 = .ok (.iload 4, 2) := by decide +kernel
theorem dX2_longestBlock_43 : decode cX2_longestBlock 43 = .ok (.istore_n 2, 1) := by decide +kernel
theorem dX2_longestBlock_44 : decode cX2_longestBlock 44 = .ok (.iinc 4 8, 3) := by decide +kernel
theorem dX2_longestBlock_47 : decode cX2_longestBlock 47 = .ok (.goto (-39), 3) := by decide +kernel
theorem dX2_longestBlock_50 : decode cX2_longestBlock 50 = .ok (.iload_n 2, 1) := by decide +kernel
theorem dX2_longestBlock_51 : decode cX2_longestBlock 51 = .ok (.ireturn, 1) := by decide +kernel
set_option maxRecDepth 20000 in
theorem ggX2_alike_X0_length : GoodIn wsX2_alike wsX0_length := goodIn_r _ [11, 12, 24, 25] (by decide +kernel) (by decide +kernel)
set_option maxRecDepth 20000 in
theorem gX2_alike_X0_length : GoodIn wsX2_alike (wsV RX2 35 RX0 yX0_length wsX0_length) := goodIn_app (goodIn_of _ (by decide +kernel)) ggX2_alike_X0_length
set_option maxRecDepth 20000 in
theorem ggX2_alike_X0_at : GoodIn wsX2_alike wsX0_at := goodIn_r _ [16, 12, 17, 24, 25] (by decide +kernel) (by decide +kernel)
set_option maxRecDepth 20000 in
theorem gX2_alike_X0_at : GoodIn wsX2_alike (wsV RX2 68 RX0 yX0_at wsX0_at) := goodIn_app (goodIn_of _ (by decide +kernel)) ggX2_alike_X0_at
theorem dX2_alike_0 : decode cX2_alike 0 = .ok (.aload_n 0, 1) := by decide +kernel
theorem dX2_alike_1 : decode cX2_alike 1 = .ok (.getfield 10, 3) := by decide +kernel
theorem dX2_alike_4 : decode cX2_alike 4 = .ok (.invokevirtual 35, 3) := by decide +kernel
theorem dX2_alike_7 : decode cX2_alike 7 = .ok (.iload_n 1, 1) := by decide +kernel
theorem dX2_alike_8 : decode cX2_alike 8 = .ok (.isub, 1) := by decide +kernel
theorem dX2_alike_9 : decode cX2_alike 9 = .ok (.aload_n 0, 1) := by decide +kernel
theorem dX2_alike_10 : decode cX2_alike 10 = .ok (.getfield 16, 3) := by decide +kernel
theorem dX2_alike_13 : decode cX2_alike 13 = .ok (.invokevirtual 35, 3) := by decide +kernel
theorem dX2_alike_16 : decode cX2_alike 16 = .ok (.iload_n 2, 1) := by decide +kernel
theorem dX2_alike_17 : decode cX2_alike 17 = .ok (.isub, 1) := by decide +kernel
theorem dX2_alike_18 : decode cX2_alike 18 = .ok (.invokestatic 100, 3) := by decide +kernel
theorem dX2_alike_21 : decode cX2_alike 21 = .ok (.istore_n 3, 1) := by decide +kernel
theorem dX2_alike_22 : decode cX2_alike 22 = .ok (.iconst 0, 1) := by decide +kernel
theorem dX2_alike_23 : decode cX2_alike 23 = .ok (.istore 4, 2) := by decide +kernel
theorem dX2_alike_25 : decode cX2_alike 25 = .ok (.iload 4, 2) := by decide +kernel
theorem dX2_alike_27 : decode cX2_alike 27 = .ok (.iload_n 3, 1) := by decide +kernel
theorem dX2_alike_28 : decode cX2_alike 28 = .ok (.if_icmp .ge 34, 3) := by decide +kernel
theorem dX2_alike_31 : decode cX2_alike 31 = .ok (.aload_n 0, 1) := by decide +kernel
theorem dX2_alike_32 : decode cX2_alike 32 = .ok (.getfield 10, 3) := by decide +kernel
theorem dX2_alike_35 : decode cX2_alike 35 = .ok (.iload_n 1, 1) := by decide +kernel
theorem dX2_alike_36 : decode cX2_alike 36 = .ok (.iload 4, 2) := by decide +kernel
theorem dX2_alike_38 : decode cX2_alike 38 = .ok (.iadd, 1) := by decide +kernel
theorem dX2_alike_39 : decode cX2_alike 39 = .ok (.invokevirtual 68, 3) := by decide +kernel
theorem dX2_alike_42 : decode cX2_alike 42 = .ok (.aload_n 0, 1) := by decide +kernel
theorem dX2_alike_43 : decode cX2_alike 43 = .ok (.getfield 16, 3) := by decide +kernel
theorem dX2_alike_46 : decode cX2_alike 46 = .ok (.iload_n 2, 1) := by decide +kernel
theorem dX2_alike_47 : decode cX2_alike 47 = .ok (.iload 4, 2) := by decide +kernel
theorem dX2_alike_49 : decode cX2_alike 49 = .ok (.iadd, 1) := by decide +kernel
theorem dX2_alike_50 : decode cX2_alike 50 = .ok (.invokevirtual 68, 3) := by decide +kernel
theorem dX2_alike_53 : decode cX2_alike 53 = .ok (.if_icmp .ne 9, 3) := by decide +kernel
theorem dX2_alike_56 : decode cX2_alike 56 = .ok (.iinc 4 1, 3) := by decide +kernel
theorem dX2_alike_59 : decode cX2_alike 59 = .ok (.goto (-34), 3) := by decide +kernel
theorem dX2_alike_62 : decode cX2_alike 62 = .ok (.iload 4, 2) := by decide +kernel
theorem dX2_alike_64 : decode cX2_alike 64 = .ok (.ireturn, 1) := by decide +kernel
set_option maxRecDepth 20000 in
theorem ggX2_writeRow_X0_empty : GoodIn wsX2_writeRow wsX0_empty := goodIn_r _ [8, 9, 59, 60] (by decide +kernel) (by decide +kernel)
set_option maxRecDepth 20000 in
theorem gX2_writeRow_X0_empty : GoodIn wsX2_writeRow (wsV RX2 43 RX0 yX0_empty wsX0_empty) := goodIn_app (goodIn_of _ (by decide +kernel)) ggX2_writeRow_X0_empty
set_option maxRecDepth 20000 in
theorem ggX2_writeRow_X1_number : GoodIn wsX2_writeRow wsX1_number := goodIn_r _ [14, 15, 61, 62, 63, 64] (by decide +kernel) (by decide +kernel)
set_option maxRecDepth 20000 in
theorem gX2_writeRow_X1_number : GoodIn wsX2_writeRow (wsV RX2 56 RX1 yX1_number wsX1_number) := goodIn_app (goodIn_of _ (by decide +kernel)) ggX2_writeRow_X1_number
set_option maxRecDepth 20000 in
theorem ggX2_writeRow_X1_kind : GoodIn wsX2_writeRow wsX1_kind := goodIn_r _ [19, 20, 21, 22, 23, 13, 24, 15, 61, 62, 63, 64] (by decide +kernel) (by decide +kernel)
set_option maxRecDepth 20000 in
theorem gX2_writeRow_X1_kind : GoodIn wsX2_writeRow (wsV RX2 59 RX1 yX1_kind wsX1_kind) := goodIn_app (goodIn_of _ (by decide +kernel)) ggX2_writeRow_X1_kind
set_option maxRecDepth 20000 in
theorem ggX2_writeRow_X0_add : GoodIn wsX2_writeRow wsX0_add := goodIn_r _ [28, 9, 29, 59, 60] (by decide +kernel) (by decide +kernel)
set_option maxRecDepth 20000 in
theorem gX2_writeRow_X0_add : GoodIn wsX2_writeRow (wsV RX2 39 RX0 yX0_add wsX0_add) := goodIn_app (goodIn_of _ (by decide +kernel)) ggX2_writeRow_X0_add
set_option maxRecDepth 20000 in
theorem ggX2_writeRow_X1_begin : GoodIn wsX2_writeRow wsX1_begin := goodIn_r _ [33, 34, 21, 22, 23, 13, 24, 15, 61, 62, 63, 64] (by decide +kernel) (by decide +kernel)
set_option maxRecDepth 20000 in
theorem gX2_writeRow_X1_begin : GoodIn wsX2_writeRow (wsV RX2 63 RX1 yX1_begin wsX1_begin) := goodIn_app (goodIn_of _ (by decide +kernel)) ggX2_writeRow_X1_begin
set_option maxRecDepth 20000 in
theorem ggX2_writeRow_X0_addTwo : GoodIn wsX2_writeRow wsX0_addTwo := goodIn_r _ [38, 39, 26, 27, 7, 28, 9, 29, 59, 60] (by decide +kernel) (by decide +kernel)
set_option maxRecDepth 20000 in
theorem gX2_writeRow_X0_addTwo : GoodIn wsX2_writeRow (wsV RX2 103 RX0 yX0_addTwo wsX0_addTwo) := goodIn_app (goodIn_of _ (by decide +kernel)) ggX2_writeRow_X0_addTwo
set_option maxRecDepth 20000 in
theorem ggX2_writeRow_X1_length : GoodIn wsX2_writeRow wsX1_length := goodIn_r _ [43, 44, 21, 22, 23, 13, 24, 15, 61, 62, 63, 64] (by decide +kernel) (by decide +kernel)
set_option maxRecDepth 20000 in
theorem gX2_writeRow_X1_length : GoodIn wsX2_writeRow (wsV RX2 66 RX1 yX1_length wsX1_length) := goodIn_app (goodIn_of _ (by decide +kernel)) ggX2_writeRow_X1_length
set_option maxRecDepth 20000 in
theorem ggX2_writeRow_X0_addFrom : GoodIn wsX2_writeRow wsX0_addFrom := goodIn_r _ [48, 49, 50, 51, 7, 52, 9, 29, 39, 26, 27, 28, 59, 60] (by decide +kernel) (by decide +kernel)
set_option maxRecDepth 20000 in
theorem gX2_writeRow_X0_addFrom : GoodIn wsX2_writeRow (wsV RX2 46 RX0 yX0_addFrom wsX0_addFrom) := goodIn_app (goodIn_of _ (by decide +kernel)) ggX2_writeRow_X0_addFrom
theorem dX2_writeRow_0 : decode cX2_writeRow 0 = .ok (.aload_n 0, 1) := by decide +kernel
theorem dX2_writeRow_1 : decode cX2_writeRow 1 = .ok (.getfield 32, 3) := by decide +kernel
theorem dX2_writeRow_4 : decode cX2_writeRow 4 = .ok (.invokevirtual 43, 3) := by decide +kernel
theorem dX2_writeRow_7 : decode cX2_writeRow 7 = .ok (.iconst 0, 1) := by decide +kernel
theorem dX2_writeRow_8 : decode cX2_writeRow 8 = .ok (.istore_n 1, 1) := by decide +kernel
theorem dX2_writeRow_9 : decode cX2_writeRow 9 = .ok (.iload_n 1, 1) := by decide +kernel
theorem dX2_writeRow_10 : decode cX2_writeRow 10 = .ok (.aload_n 0, 1) := by decide +kernel
theorem dX2_writeRow_11 : decode cX2_writeRow 11 = .ok (.getfield 25, 3) := by decide +kernel
theorem dX2_writeRow_14 : decode cX2_writeRow 14 = .ok (.invokevirtual 56, 3) := by decide +kernel
theorem dX2_writeRow_17 : decode cX2_writeRow 17 = .ok (.if_icmp .ge 111, 3) := by decide +kernel
theorem dX2_writeRow_20 : decode cX2_writeRow 20 = .ok (.aload_n 0, 1) := by decide +kernel
theorem dX2_writeRow_21 : decode cX2_writeRow 21 = .ok (.getfield 32, 3) := by decide +kernel
theorem dX2_writeRow_24 : decode cX2_writeRow 24 = .ok (.aload_n 0, 1) := by decide +kernel
theorem dX2_writeRow_25 : decode cX2_writeRow 25 = .ok (.getfield 25, 3) := by decide +kernel
theorem dX2_writeRow_28 : decode cX2_writeRow 28 = .ok (.iload_n 1, 1) := by decide +kernel
theorem dX2_writeRow_29 : decode cX2_writeRow 29 = .ok (.invokevirtual 59, 3) := by decide +kernel
theorem dX2_writeRow_32 : decode cX2_writeRow 32 = .ok (.invokevirtual 39, 3) := by decide +kernel
theorem dX2_writeRow_35 : decode cX2_writeRow 35 = .ok (.aload_n 0, 1) := by decide +kernel
theorem dX2_writeRow_36 : decode cX2_writeRow 36 = .ok (.getfield 25, 3) := by decide +kernel
theorem dX2_writeRow_39 : decode cX2_writeRow 39 = .ok (.iload_n 1, 1) := by decide +kernel
theorem dX2_writeRow_40 : decode cX2_writeRow 40 = .ok (.invokevirtual 59, 3) := by decide +kernel
theorem dX2_writeRow_43 : decode cX2_writeRow 43 = .ok (.iconst 1, 1) := by decide +kernel
theorem dX2_writeRow_44 : decode cX2_writeRow 44 = .ok (.if_icmp .ne 36, 3) := by decide +kernel
theorem dX2_writeRow_47 : decode cX2_writeRow 47 = .ok (.aload_n 0, 1) := by decide +kernel
theorem dX2_writeRow_48 : decode cX2_writeRow 48 = .ok (.getfield 32, 3) := by decide +kernel
theorem dX2_writeRow_51 : decode cX2_writeRow 51 = .ok (.aload_n 0, 1) := by decide +kernel
theorem dX2_writeRow_52 : decode cX2_writeRow 52 = .ok (.getfield 25, 3) := by decide +kernel
theorem dX2_writeRow_55 : decode cX2_writeRow 55 = .ok (.iload_n 1, 1) := by decide +kernel
theorem dX2_writeRow_56 : decode cX2_writeRow 56 = .ok (.invokevirtual 63, 3) := by decide +kernel
theorem dX2_writeRow_59 : decode cX2_writeRow 59 = .ok (.invokevirtual 103, 3) := by decide +kernel
theorem dX2_writeRow_62 : decode cX2_writeRow 62 = .ok (.aload_n 0, 1) := by decide +kernel
theorem dX2_writeRow_63 : decode cX2_writeRow 63 = .ok (.getfield 32, 3) := by decide +kernel
theorem dX2_writeRow_66 : decode cX2_writeRow 66 = .ok (.aload_n 0, 1) := by decide +kernel
theorem dX2_writeRow_67 : decode cX2_writeRow 67 = .ok (.getfield 25, 3) := by decide +kernel
theorem dX2_writeRow_70 : decode cX2_writeRow 70 = .ok (.iload_n 1, 1) := by decide +kernel
theorem dX2_writeRow_71 : decode cX2_writeRow 71 = .ok (.invokevirtual 66, 3) := by decide +kernel
theorem dX2_writeRow_74 : decode cX2_writeRow 74 = .ok (.invokevirtual 103, 3) := by decide +kernel
theorem dX2_writeRow_77 : decode cX2_writeRow 77 = .ok (.goto 45, 3) := by decide +kernel
theorem dX2_writeRow_80 : decode cX2_writeRow 80 = .ok (.aload_n 0, 1) := by decide +kernel
theorem dX2_writeRow_81 : decode cX2_writeRow 81 = .ok (.getfield 32, 3) := by decide +kernel
theorem dX2_writeRow_84 : decode cX2_writeRow 84 = .ok (.aload_n 0, 1) := by decide +kernel
theorem dX2_writeRow_85 : decode cX2_writeRow 85 = .ok (.getfield 25, 3) := by decide +kernel
theorem dX2_writeRow_88 : decode cX2_writeRow 88 = .ok (.iload_n 1, 1) := by decide +kernel
theorem dX2_writeRow_89 : decode cX2_writeRow 89 = .ok (.invokevirtual 66, 3) := by decide +kernel
theorem dX2_writeRow_92 : decode cX2_writeRow 92 = .ok (.invokevirtual 103, 3) := by decide +kernel
theorem dX2_writeRow_95 : decode cX2_writeRow 95 = .ok (.aload_n 0, 1) := by decide +kernel
theorem dX2_writeRow_96 : decode cX2_writeRow 96 = .ok (.getfield 32, 3) := by decide +kernel
theorem dX2_writeRow_99 : decode cX2_writeRow 99 = .ok (.aload_n 0, 1) := by decide +kernel
theorem dX2_writeRow_100 : decode cX2_writeRow 100 = .ok (.getfield 29, 3) := by decide +kernel
theorem dX2_writeRow_103 : decode cX2_writeRow 103 = .ok (.aload_n 0, 1) := by decide +kernel
theorem dX2_writeRow_104 : decode cX2_writeRow 104 = .ok (.getfield 25, 3) := by decide +kernel
theorem dX2_writeRow_107 : decode cX2_writeRow 107 = .ok (.iload_n 1, 1) := by decide +kernel
theorem dX2_writeRow_108 : decode cX2_writeRow 108 = .ok (.invokevirtual 63, 3) := by decide +kernel
theorem dX2_writeRow_111 : decode cX2_writeRow 111 = .ok (.aload_n 0, 1) := by decide +kernel
theorem dX2_writeRow_112 : decode cX2_writeRow 112 = .ok (.getfield 25, 3) := by decide +kernel
theorem dX2_writeRow_115 : decode cX2_writeRow 115 = .ok (.iload_n 1, 1) := by decide +kernel
theorem dX2_writeRow_116 : decode cX2_writeRow 116 = .ok (.invokevirtual 66, 3) := by decide +kernel
theorem dX2_writeRow_119 : decode cX2_writeRow 119 = .ok (.invokevirtual 46, 3) := by decide +kernel
theorem dX2_writeRow_122 : decode cX2_writeRow 122 = .ok (.iinc 1 1, 3) := by decide +kernel
theorem dX2_writeRow_125 : decode cX2_writeRow 125 = .ok (.goto (-116), 3) := by decide +kernel
theorem dX2_writeRow_128 : decode cX2_writeRow 128 = .ok (.return_, 1) := by decide +kernel
theorem dJ9_max_7cf53_0 : decode cJ9_max_7cf53 0 = .ok (.iload_n 0, 1) := by decide +kernel
theorem dJ9_max_7cf53_1 : decode cJ9_max_7cf53 1 = .ok (.iload_n 1, 1) := by decide +kernel
theorem dJ9_max_7cf53_2 : decode cJ9_max_7cf53 2 = .ok (.if_icmp .lt 7, 3) := by decide +kernel
theorem dJ9_max_7cf53_5 : decode cJ9_max_7cf53 5 = .ok (.iload_n 0, 1) := by decide +kernel
theorem dJ9_max_7cf53_6 : decode cJ9_max_7cf53 6 = .ok (.goto 4, 3) := by decide +kernel
theorem dJ9_max_7cf53_9 : decode cJ9_max_7cf53 9 = .ok (.iload_n 1, 1) := by decide +kernel
theorem dJ9_max_7cf53_10 : decode cJ9_max_7cf53 10 = .ok (.ireturn, 1) := by decide +kernel
theorem dJ9_min_7cf53_0 : decode cJ9_min_7cf53 0 = .ok (.iload_n 0, 1) := by decide +kernel
theorem dJ9_min_7cf53_1 : decode cJ9_min_7cf53 1 = .ok (.iload_n 1, 1) := by decide +kernel
theorem dJ9_min_7cf53_2 : decode cJ9_min_7cf53 2 = .ok (.if_icmp .gt 7, 3) := by decide +kernel
theorem dJ9_min_7cf53_5 : decode cJ9_min_7cf53 5 = .ok (.iload_n 0, 1) := by decide +kernel
theorem dJ9_min_7cf53_6 : decode cJ9_min_7cf53 6 = .ok (.goto 4, 3) := by decide +kernel
theorem dJ9_min_7cf53_9 : decode cJ9_min_7cf53 9 = .ok (.iload_n 1, 1) := by decide +kernel
theorem dJ9_min_7cf53_10 : decode cJ9_min_7cf53 10 = .ok (.ireturn, 1) := by decide +kernel
set_option maxRecDepth 20000 in
theorem ggL_go_X2_go : GoodIn wsL_go wsX2_go := goodIn_ca (goodIn_r _ [6, 7, 8, 9, 10, 11, 12, 13, 14, 15, 16, 17, 18, 19, 20, 21, 22, 23, 24, 25, 26, 27, 28, 29, 30, 31, 32, 33, 34, 35, 36, 37, 38, 39, 40, 41, 42, 43, 44, 45, 46, 47, 48, 49, 50, 51, 52, 53, 54, 55, 56, 57, 58, 59, 60, 61, 62, 63, 64, 65, 66, 67, 68, 69, 70, 71, 72, 73, 74, 75, 76, 77, 78, 79, 80, 81, 82, 83] (by decide +kernel) (by decide +kernel)) (goodIn_sub (fun _ h => List.mem_cons_of_mem _ (List.mem_append_right _ h)) (by decide +kernel))
set_option maxRecDepth 20000 in
theorem gL_go_X2_go : GoodIn wsL_go (wsV RL 7 RX2 yX2_go wsX2_go) := goodIn_app (goodIn_of _ (by decide +kernel)) ggL_go_X2_go
theorem dL_go_0 : decode cL_go 0 = .ok (.aload_n 1, 1) := by decide +kernel
theorem dL_go_1 : decode cL_go 1 = .ok (.iconst 0, 1) := by decide +kernel
theorem dL_go_2 : decode cL_go 2 = .ok (.aload_n 0, 1) := by decide +kernel
theorem dL_go_3 : decode cL_go 3 = .ok (.invokevirtual 7, 3) := by decide +kernel
theorem dL_go_6 : decode cL_go 6 = .ok (.i2l, 1) := by decide +kernel
theorem dL_go_7 : decode cL_go 7 = .ok (.lastore, 1) := by decide +kernel
theorem dL_go_8 : decode cL_go 8 = .ok (.goto 6, 3) := by decide +kernel
theorem dL_go_11 : decode cL_go 11 = .ok (.astore_n 2, 1) := by decide +kernel
theorem dL_go_12 : decode cL_go 12 = .ok (.iconst 1, 1) := by decide +kernel
theorem dL_go_13 : decode cL_go 13 = .ok (.ireturn, 1) := by decide +kernel
theorem dL_go_14 : decode cL_go 14 = .ok (.iconst 0, 1) := by decide +kernel
theorem dL_go_15 : decode cL_go 15 = .ok (.ireturn, 1) := by decide +kernel
theorem dL_law_0 : decode cL_law 0 = .ok (.new 8, 3) := by decide +kernel
theorem dL_law_3 : decode cL_law 3 = .ok (.dup, 1) := by decide +kernel
theorem dL_law_4 : decode cL_law 4 = .ok (.invokespecial 15, 3) := by decide +kernel
theorem dL_law_7 : decode cL_law 7 = .ok (.astore_n 1, 1) := by decide +kernel
theorem dL_law_8 : decode cL_law 8 = .ok (.new 16, 3) := by decide +kernel
theorem dL_law_11 : decode cL_law 11 = .ok (.dup, 1) := by decide +kernel
theorem dL_law_12 : decode cL_law 12 = .ok (.invokespecial 18, 3) := by decide +kernel
theorem dL_law_15 : decode cL_law 15 = .ok (.astore_n 2, 1) := by decide +kernel
theorem dL_law_16 : decode cL_law 16 = .ok (.iconst 1, 1) := by decide +kernel
theorem dL_law_17 : decode cL_law 17 = .ok (.newarray .long, 2) := by decide +kernel
theorem dL_law_19 : decode cL_law 19 = .ok (.astore_n 3, 1) := by decide +kernel
theorem dL_law_20 : decode cL_law 20 = .ok (.iconst 0, 1) := by decide +kernel
theorem dL_law_21 : decode cL_law 21 = .ok (.istore 4, 2) := by decide +kernel
theorem dL_law_23 : decode cL_law 23 = .ok (.iload 4, 2) := by decide +kernel
theorem dL_law_25 : decode cL_law 25 = .ok (.aload_n 0, 1) := by decide +kernel
theorem dL_law_26 : decode cL_law 26 = .ok (.arraylength, 1) := by decide +kernel
theorem dL_law_27 : decode cL_law 27 = .ok (.iconst 5, 1) := by decide +kernel
theorem dL_law_28 : decode cL_law 28 = .ok (.isub, 1) := by decide +kernel
theorem dL_law_29 : decode cL_law 29 = .ok (.if_icmp .gt 383, 3) := by decide +kernel
theorem dL_law_32 : decode cL_law 32 = .ok (.aload_n 0, 1) := by decide +kernel
theorem dL_law_33 : decode cL_law 33 = .ok (.iload 4, 2) := by decide +kernel
theorem dL_law_35 : decode cL_law 35 = .ok (.iaload, 1) := by decide +kernel
theorem dL_law_36 : decode cL_law 36 = .ok (.bipush 15, 2) := by decide +kernel
theorem dL_law_38 : decode cL_law 38 = .ok (.iand, 1) := by decide +kernel
theorem dL_law_39 : decode cL_law 39 = .ok (.tableswitch 367 0 8 #[49, 146, 185, 198, 235, 248, 273, 317, 342], 49) := by decide +kernel
theorem dL_law_88 : decode cL_law 88 = .ok (.aload_n 1, 1) := by decide +kernel
theorem dL_law_89 : decode cL_law 89 = .ok (.aload_n 0, 1) := by decide +kernel
theorem dL_law_90 : decode cL_law 90 = .ok (.iload 4, 2) := by decide +kernel
theorem dL_law_92 : decode cL_law 92 = .ok (.iconst 1, 1) := by decide +kernel
theorem dL_law_93 : decode cL_law 93 = .ok (.iadd, 1) := by decide +kernel
theorem dL_law_94 : decode cL_law 94 = .ok (.iaload, 1) := by decide +kernel
theorem dL_law_95 : decode cL_law 95 = .ok (.ifCond .eq 7, 3) := by decide +kernel
theorem dL_law_98 : decode cL_law 98 = .ok (.iconst 1, 1) := by decide +kernel
theorem dL_law_99 : decode cL_law 99 = .ok (.goto 4, 3) := by decide +kernel
theorem dL_law_102 : decode cL_law 102 = .ok (.iconst 0, 1) := by decide +kernel
theorem dL_law_103 : decode cL_law 103 = .ok (.aload_n 0, 1) := by decide +kernel
theorem dL_law_104 : decode cL_law 104 = .ok (.iload 4, 2) := by decide +kernel
theorem dL_law_106 : decode cL_law 106 = .ok (.iconst 2, 1) := by decide +kernel
theorem dL_law_107 : decode cL_law 107 = .ok (.iadd, 1) := by decide +kernel
theorem dL_law_108 : decode cL_law 108 = .ok (.iaload, 1) := by decide +kernel
theorem dL_law_109 : decode cL_law 109 = .ok (.i2l, 1) := by decide +kernel
theorem dL_law_110 : decode cL_law 110 = .ok (.bipush 32, 2) := by decide +kernel
theorem dL_law_112 : decode cL_law 112 = .ok (.lshl, 1) := by decide +kernel
theorem dL_law_113 : decode cL_law 113 = .ok (.aload_n 0, 1) := by decide +kernel
theorem dL_law_114 : decode cL_law 114 = .ok (.iload 4, 2) := by decide +kernel
theorem dL_law_116 : decode cL_law 116 = .ok (.iconst 3, 1) := by decide +kernel
theorem dL_law_117 : decode cL_law 117 = .ok (.iadd, 1) := by decide +kernel
theorem dL_law_118 : decode cL_law 118 = .ok (.iaload, 1) := by decide +kernel
theorem dL_law_119 : decode cL_law 119 = .ok (.i2l, 1) := by decide +kernel
theorem dL_law_120 : decode cL_law 120 = .ok (.ldc2_w 19, 3) := by decide +kernel
theorem dL_law_123 : decode cL_law 123 = .ok (.land, 1) := by decide +kernel
theorem dL_law_124 : decode cL_law 124 = .ok (.lor, 1) := by decide +kernel
theorem dL_law_125 : decode cL_law 125 = .ok (.aload_n 0, 1) := by decide +kernel
theorem dL_law_126 : decode cL_law 126 = .ok (.iload 4, 2) := by decide +kernel
theorem dL_law_128 : decode cL_law 128 = .ok (.iconst 4, 1) := by decide +kernel
theorem dL_law_129 : decode cL_law 129 = .ok (.iadd, 1) := by decide +kernel
theorem dL_law_130 : decode cL_law 130 = .ok (.iaload, 1) := by decide +kernel
theorem dL_law_131 : decode cL_law 131 = .ok (.invokevirtual 21, 3) := by decide +kernel
theorem dL_law_134 : decode cL_law 134 = .ok (.aload_n 2, 1) := by decide +kernel
theorem dL_law_135 : decode cL_law 135 = .ok (.aload_n 0, 1) := by decide +kernel
theorem dL_law_136 : decode cL_law 136 = .ok (.iload 4, 2) := by decide +kernel
theorem dL_law_138 : decode cL_law 138 = .ok (.iconst 1, 1) := by decide +kernel
theorem dL_law_139 : decode cL_law 139 = .ok (.iadd, 1) := by decide +kernel
theorem dL_law_140 : decode cL_law 140 = .ok (.iaload, 1) := by decide +kernel
theorem dL_law_141 : decode cL_law 141 = .ok (.ifCond .eq 7, 3) := by decide +kernel
theorem dL_law_144 : decode cL_law 144 = .ok (.iconst 1, 1) := by decide +kernel
theorem dL_law_145 : decode cL_law 145 = .ok (.goto 4, 3) := by decide +kernel
theorem dL_law_148 : decode cL_law 148 = .ok (.iconst 0, 1) := by decide +kernel
theorem dL_law_149 : decode cL_law 149 = .ok (.aload_n 0, 1) := by decide +kernel
theorem dL_law_150 : decode cL_law 150 = .ok (.iload 4, 2) := by decide +kernel
theorem dL_law_152 : decode cL_law 152 = .ok (.iconst 2, 1) := by decide +kernel
theorem dL_law_153 : decode cL_law 153 = .ok (.iadd, 1) := by decide +kernel
theorem dL_law_154 : decode cL_law 154 = .ok (.iaload, 1) := by decide +kernel
theorem dL_law_155 : decode cL_law 155 = .ok (.i2l, 1) := by decide +kernel
theorem dL_law_156 : decode cL_law 156 = .ok (.bipush 32, 2) := by decide +kernel
theorem dL_law_158 : decode cL_law 158 = .ok (.lshl, 1) := by decide +kernel
theorem dL_law_159 : decode cL_law 159 = .ok (.aload_n 0, 1) := by decide +kernel
theorem dL_law_160 : decode cL_law 160 = .ok (.iload 4, 2) := by decide +kernel
theorem dL_law_162 : decode cL_law 162 = .ok (.iconst 3, 1) := by decide +kernel
theorem dL_law_163 : decode cL_law 163 = .ok (.iadd, 1) := by decide +kernel
theorem dL_law_164 : decode cL_law 164 = .ok (.iaload, 1) := by decide +kernel
theorem dL_law_165 : decode cL_law 165 = .ok (.i2l, 1) := by decide +kernel
theorem dL_law_166 : decode cL_law 166 = .ok (.ldc2_w 19, 3) := by decide +kernel
theorem dL_law_169 : decode cL_law 169 = .ok (.land, 1) := by decide +kernel
theorem dL_law_170 : decode cL_law 170 = .ok (.lor, 1) := by decide +kernel
theorem dL_law_171 : decode cL_law 171 = .ok (.aload_n 0, 1) := by decide +kernel
theorem dL_law_172 : decode cL_law 172 = .ok (.iload 4, 2) := by decide +kernel
theorem dL_law_174 : decode cL_law 174 = .ok (.iconst 4, 1) := by decide +kernel
theorem dL_law_175 : decode cL_law 175 = .ok (.iadd, 1) := by decide +kernel
theorem dL_law_176 : decode cL_law 176 = .ok (.iaload, 1) := by decide +kernel
theorem dL_law_177 : decode cL_law 177 = .ok (.invokevirtual 25, 3) := by decide +kernel
theorem dL_law_180 : decode cL_law 180 = .ok (.if_icmp .eq 226, 3) := by decide +kernel
theorem dL_law_183 : decode cL_law 183 = .ok (.iconst 0, 1) := by decide +kernel
theorem dL_law_184 : decode cL_law 184 = .ok (.ireturn, 1) := by decide +kernel
theorem dL_law_185 : decode cL_law 185 = .ok (.aload_n 1, 1) := by decide +kernel
theorem dL_law_186 : decode cL_law 186 = .ok (.aload_n 0, 1) := by decide +kernel
theorem dL_law_187 : decode cL_law 187 = .ok (.iload 4, 2) := by decide +kernel
theorem dL_law_189 : decode cL_law 189 = .ok (.iconst 1, 1) := by decide +kernel
theorem dL_law_190 : decode cL_law 190 = .ok (.iadd, 1) := by decide +kernel
theorem dL_law_191 : decode cL_law 191 = .ok (.iaload, 1) := by decide +kernel
theorem dL_law_192 : decode cL_law 192 = .ok (.ifCond .eq 7, 3) := by decide +kernel
theorem dL_law_195 : decode cL_law 195 = .ok (.iconst 1, 1) := by decide +kernel
theorem dL_law_196 : decode cL_law 196 = .ok (.goto 4, 3) := by decide +kernel
theorem dL_law_199 : decode cL_law 199 = .ok (.iconst 0, 1) := by decide +kernel
theorem dL_law_200 : decode cL_law 200 = .ok (.invokevirtual 26, 3) := by decide +kernel
theorem dL_law_203 : decode cL_law 203 = .ok (.aload_n 2, 1) := by decide +kernel
theorem dL_law_204 : decode cL_law 204 = .ok (.aload_n 0, 1) := by decide +kernel
theorem dL_law_205 : decode cL_law 205 = .ok (.iload 4, 2) := by decide +kernel
theorem dL_law_207 : decode cL_law 207 = .ok (.iconst 1, 1) := by decide +kernel
theorem dL_law_208 : decode cL_law 208 = .ok (.iadd, 1) := by decide +kernel
theorem dL_law_209 : decode cL_law 209 = .ok (.iaload, 1) := by decide +kernel
theorem dL_law_210 : decode cL_law 210 = .ok (.ifCond .eq 7, 3) := by decide +kernel
theorem dL_law_213 : decode cL_law 213 = .ok (.iconst 1, 1) := by decide +kernel
theorem dL_law_214 : decode cL_law 214 = .ok (.goto 4, 3) := by decide +kernel
theorem dL_law_217 : decode cL_law 217 = .ok (.iconst 0, 1) := by decide +kernel
theorem dL_law_218 : decode cL_law 218 = .ok (.invokevirtual 30, 3) := by decide +kernel
theorem dL_law_221 : decode cL_law 221 = .ok (.goto 185, 3) := by decide +kernel
theorem dL_law_224 : decode cL_law 224 = .ok (.aload_n 1, 1) := by decide +kernel
theorem dL_law_225 : decode cL_law 225 = .ok (.invokevirtual 31, 3) := by decide +kernel
theorem dL_law_228 : decode cL_law 228 = .ok (.aload_n 2, 1) := by decide +kernel
theorem dL_law_229 : decode cL_law 229 = .ok (.invokevirtual 34, 3) := by decide +kernel
theorem dL_law_232 : decode cL_law 232 = .ok (.if_icmp .eq 174, 3) := by decide +kernel
theorem dL_law_235 : decode cL_law 235 = .ok (.iconst 0, 1) := by decide +kernel
theorem dL_law_236 : decode cL_law 236 = .ok (.ireturn, 1) := by decide +kernel
theorem dL_law_237 : decode cL_law 237 = .ok (.aload_n 1, 1) := by decide +kernel
theorem dL_law_238 : decode cL_law 238 = .ok (.aload_n 0, 1) := by decide +kernel
theorem dL_law_239 : decode cL_law 239 = .ok (.iload 4, 2) := by decide +kernel
theorem dL_law_241 : decode cL_law 241 = .ok (.iconst 1, 1) := by decide +kernel
theorem dL_law_242 : decode cL_law 242 = .ok (.iadd, 1) := by decide +kernel
theorem dL_law_243 : decode cL_law 243 = .ok (.iaload, 1) := by decide +kernel
theorem dL_law_244 : decode cL_law 244 = .ok (.aload_n 0, 1) := by decide +kernel
theorem dL_law_245 : decode cL_law 245 = .ok (.iload 4, 2) := by decide +kernel
theorem dL_law_247 : decode cL_law 247 = .ok (.iconst 2, 1) := by decide +kernel
theorem dL_law_248 : decode cL_law 248 = .ok (.iadd, 1) := by decide +kernel
theorem dL_law_249 : decode cL_law 249 = .ok (.iaload, 1) := by decide +kernel
theorem dL_law_250 : decode cL_law 250 = .ok (.invokevirtual 35, 3) := by decide +kernel
theorem dL_law_253 : decode cL_law 253 = .ok (.aload_n 2, 1) := by decide +kernel
theorem dL_law_254 : decode cL_law 254 = .ok (.aload_n 0, 1) := by decide +kernel
theorem dL_law_255 : decode cL_law 255 = .ok (.iload 4, 2) := by decide +kernel
theorem dL_law_257 : decode cL_law 257 = .ok (.iconst 1, 1) := by decide +kernel
theorem dL_law_258 : decode cL_law 258 = .ok (.iadd, 1) := by decide +kernel
theorem dL_law_259 : decode cL_law 259 = .ok (.iaload, 1) := by decide +kernel
theorem dL_law_260 : decode cL_law 260 = .ok (.aload_n 0, 1) := by decide +kernel
theorem dL_law_261 : decode cL_law 261 = .ok (.iload 4, 2) := by decide +kernel
theorem dL_law_263 : decode cL_law 263 = .ok (.iconst 2, 1) := by decide +kernel
theorem dL_law_264 : decode cL_law 264 = .ok (.iadd, 1) := by decide +kernel
theorem dL_law_265 : decode cL_law 265 = .ok (.iaload, 1) := by decide +kernel
theorem dL_law_266 : decode cL_law 266 = .ok (.invokevirtual 39, 3) := by decide +kernel
theorem dL_law_269 : decode cL_law 269 = .ok (.if_icmp .eq 137, 3) := by decide +kernel
theorem dL_law_272 : decode cL_law 272 = .ok (.iconst 0, 1) := by decide +kernel
theorem dL_law_273 : decode cL_law 273 = .ok (.ireturn, 1) := by decide +kernel
theorem dL_law_274 : decode cL_law 274 = .ok (.aload_n 1, 1) := by decide +kernel
theorem dL_law_275 : decode cL_law 275 = .ok (.invokevirtual 40, 3) := by decide +kernel
theorem dL_law_278 : decode cL_law 278 = .ok (.aload_n 2, 1) := by decide +kernel
theorem dL_law_279 : decode cL_law 279 = .ok (.invokevirtual 43, 3) := by decide +kernel
theorem dL_law_282 : decode cL_law 282 = .ok (.if_icmp .eq 124, 3) := by decide +kernel
theorem dL_law_285 : decode cL_law 285 = .ok (.iconst 0, 1) := by decide +kernel
theorem dL_law_286 : decode cL_law 286 = .ok (.ireturn, 1) := by decide +kernel
theorem dL_law_287 : decode cL_law 287 = .ok (.aload_n 1, 1) := by decide +kernel
theorem dL_law_288 : decode cL_law 288 = .ok (.aload_n 0, 1) := by decide +kernel
theorem dL_law_289 : decode cL_law 289 = .ok (.iload 4, 2) := by decide +kernel
theorem dL_law_291 : decode cL_law 291 = .ok (.iconst 1, 1) := by decide +kernel
theorem dL_law_292 : decode cL_law 292 = .ok (.iadd, 1) := by decide +kernel
theorem dL_law_293 : decode cL_law 293 = .ok (.iaload, 1) := by decide +kernel
theorem dL_law_294 : decode cL_law 294 = .ok (.invokevirtual 44, 3) := by decide +kernel
theorem dL_law_297 : decode cL_law 297 = .ok (.aload_n 2, 1) := by decide +kernel
theorem dL_law_298 : decode cL_law 298 = .ok (.aload_n 0, 1) := by decide +kernel
theorem dL_law_299 : decode cL_law 299 = .ok (.iload 4, 2) := by decide +kernel
theorem dL_law_301 : decode cL_law 301 = .ok (.iconst 1, 1) := by decide +kernel
theorem dL_law_302 : decode cL_law 302 = .ok (.iadd, 1) := by decide +kernel
theorem dL_law_303 : decode cL_law 303 = .ok (.iaload, 1) := by decide +kernel
theorem dL_law_304 : decode cL_law 304 = .ok (.invokevirtual 48, 3) := by decide +kernel
theorem dL_law_307 : decode cL_law 307 = .ok (.if_icmp .eq 99, 3) := by decide +kernel
theorem dL_law_310 : decode cL_law 310 = .ok (.iconst 0, 1) := by decide +kernel
theorem dL_law_311 : decode cL_law 311 = .ok (.ireturn, 1) := by decide +kernel
theorem dL_law_312 : decode cL_law 312 = .ok (.aload_n 1, 1) := by decide +kernel
theorem dL_law_313 : decode cL_law 313 = .ok (.aload_n 3, 1) := by decide +kernel
theorem dL_law_314 : decode cL_law 314 = .ok (.invokestatic 49, 3) := by decide +kernel
theorem dL_law_317 : decode cL_law 317 = .ok (.istore 5, 2) := by decide +kernel
theorem dL_law_319 : decode cL_law 319 = .ok (.aload_n 2, 1) := by decide +kernel
theorem dL_law_320 : decode cL_law 320 = .ok (.invokevirtual 54, 3) := by decide +kernel
theorem dL_law_323 : decode cL_law 323 = .ok (.istore 6, 2) := by decide +kernel
theorem dL_law_325 : decode cL_law 325 = .ok (.aload_n 2, 1) := by decide +kernel
theorem dL_law_326 : decode cL_law 326 = .ok (.invokevirtual 55, 3) := by decide +kernel
theorem dL_law_329 : decode cL_law 329 = .ok (.iload 5, 2) := by decide +kernel
theorem dL_law_331 : decode cL_law 331 = .ok (.if_icmp .eq 5, 3) := by decide +kernel
theorem dL_law_334 : decode cL_law 334 = .ok (.iconst 0, 1) := by decide +kernel
theorem dL_law_335 : decode cL_law 335 = .ok (.ireturn, 1) := by decide +kernel
theorem dL_law_336 : decode cL_law 336 = .ok (.iload 5, 2) := by decide +kernel
theorem dL_law_338 : decode cL_law 338 = .ok (.ifCond .ne 15, 3) := by decide +kernel
theorem dL_law_341 : decode cL_law 341 = .ok (.aload_n 3, 1) := by decide +kernel
theorem dL_law_342 : decode cL_law 342 = .ok (.iconst 0, 1) := by decide +kernel
theorem dL_law_343 : decode cL_law 343 = .ok (.laload, 1) := by decide +kernel
theorem dL_law_344 : decode cL_law 344 = .ok (.iload 6, 2) := by decide +kernel
theorem dL_law_346 : decode cL_law 346 = .ok (.i2l, 1) := by decide +kernel
theorem dL_law_347 : decode cL_law 347 = .ok (.lcmp, 1) := by decide +kernel
theorem dL_law_348 : decode cL_law 348 = .ok (.ifCond .eq 5, 3) := by decide +kernel
theorem dL_law_351 : decode cL_law 351 = .ok (.iconst 0, 1) := by decide +kernel
theorem dL_law_352 : decode cL_law 352 = .ok (.ireturn, 1) := by decide +kernel
theorem dL_law_353 : decode cL_law 353 = .ok (.goto 53, 3) := by decide +kernel
theorem dL_law_356 : decode cL_law 356 = .ok (.aload_n 1, 1) := by decide +kernel
theorem dL_law_357 : decode cL_law 357 = .ok (.aload_n 0, 1) := by decide +kernel
theorem dL_law_358 : decode cL_law 358 = .ok (.iload 4, 2) := by decide +kernel
theorem dL_law_360 : decode cL_law 360 = .ok (.iconst 1, 1) := by decide +kernel
theorem dL_law_361 : decode cL_law 361 = .ok (.iadd, 1) := by decide +kernel
theorem dL_law_362 : decode cL_law 362 = .ok (.iaload, 1) := by decide +kernel
theorem dL_law_363 : decode cL_law 363 = .ok (.invokevirtual 58, 3) := by decide +kernel
theorem dL_law_366 : decode cL_law 366 = .ok (.aload_n 2, 1) := by decide +kernel
theorem dL_law_367 : decode cL_law 367 = .ok (.aload_n 0, 1) := by decide +kernel
theorem dL_law_368 : decode cL_law 368 = .ok (.iload 4, 2) := by decide +kernel
theorem dL_law_370 : decode cL_law 370 = .ok (.iconst 1, 1) := by decide +kernel
theorem dL_law_371 : decode cL_law 371 = .ok (.iadd, 1) := by decide +kernel
theorem dL_law_372 : decode cL_law 372 = .ok (.iaload, 1) := by decide +kernel
theorem dL_law_373 : decode cL_law 373 = .ok (.invokevirtual 61, 3) := by decide +kernel
theorem dL_law_376 : decode cL_law 376 = .ok (.if_icmp .eq 30, 3) := by decide +kernel
theorem dL_law_379 : decode cL_law 379 = .ok (.iconst 0, 1) := by decide +kernel
theorem dL_law_380 : decode cL_law 380 = .ok (.ireturn, 1) := by decide +kernel
theorem dL_law_381 : decode cL_law 381 = .ok (.aload_n 1, 1) := by decide +kernel
theorem dL_law_382 : decode cL_law 382 = .ok (.aload_n 0, 1) := by decide +kernel
theorem dL_law_383 : decode cL_law 383 = .ok (.iload 4, 2) := by decide +kernel
theorem dL_law_385 : decode cL_law 385 = .ok (.iconst 1, 1) := by decide +kernel
theorem dL_law_386 : decode cL_law 386 = .ok (.iadd, 1) := by decide +kernel
theorem dL_law_387 : decode cL_law 387 = .ok (.iaload, 1) := by decide +kernel
theorem dL_law_388 : decode cL_law 388 = .ok (.invokevirtual 62, 3) := by decide +kernel
theorem dL_law_391 : decode cL_law 391 = .ok (.aload_n 2, 1) := by decide +kernel
theorem dL_law_392 : decode cL_law 392 = .ok (.aload_n 0, 1) := by decide +kernel
theorem dL_law_393 : decode cL_law 393 = .ok (.iload 4, 2) := by decide +kernel
theorem dL_law_395 : decode cL_law 395 = .ok (.iconst 1, 1) := by decide +kernel
theorem dL_law_396 : decode cL_law 396 = .ok (.iadd, 1) := by decide +kernel
theorem dL_law_397 : decode cL_law 397 = .ok (.iaload, 1) := by decide +kernel
theorem dL_law_398 : decode cL_law 398 = .ok (.invokevirtual 65, 3) := by decide +kernel
theorem dL_law_401 : decode cL_law 401 = .ok (.if_icmp .eq 5, 3) := by decide +kernel
theorem dL_law_404 : decode cL_law 404 = .ok (.iconst 0, 1) := by decide +kernel
theorem dL_law_405 : decode cL_law 405 = .ok (.ireturn, 1) := by decide +kernel
theorem dL_law_406 : decode cL_law 406 = .ok (.iinc 4 5, 3) := by decide +kernel
theorem dL_law_409 : decode cL_law 409 = .ok (.goto (-386), 3) := by decide +kernel
theorem dL_law_412 : decode cL_law 412 = .ok (.iconst 1, 1) := by decide +kernel
theorem dL_law_413 : decode cL_law 413 = .ok (.ireturn, 1) := by decide +kernel
theorem inX0 : ∀ w ∈ wsX00, w ∈ lw_tbl := by decide +kernel
theorem inX1 : ∀ w ∈ wsX10, w ∈ lw_tbl := by decide +kernel
theorem inX2 : ∀ w ∈ wsX20, w ∈ lw_tbl := by decide +kernel
