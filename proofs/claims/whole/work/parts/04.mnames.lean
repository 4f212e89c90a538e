def RX3 : String := "PieceWaysModel"
def TX3 : u_T := fun k => match k with
  | 0 => ("PieceWaysModel", "thrownCode", "I", false)
  | 1 => ("PieceWaysModel", "base", "[I", true)
  | 2 => ("PieceWaysModel", "bases", "I", false)
  | 3 => ("PieceWaysModel", "target", "[I", true)
  | 4 => ("PieceWaysModel", "targets", "I", false)
  | 5 => ("PieceWaysModel", "row", "[I", true)
  | 6 => ("PieceWaysModel", "size", "I", false)
  | 7 => ("PieceWaysModel", "result", "[I", true)
  | 8 => ("PieceWaysModel", "results", "I", false)
  | _ => ("PieceWaysModel", "next", "[I", true)
def tyX3 : Nat → FieldType := fun k => match k with
  | 0 => .int
  | 1 => .array .int
  | 2 => .int
  | 3 => .array .int
  | 4 => .int
  | 5 => .array .int
  | 6 => .int
  | 7 => .array .int
  | 8 => .int
  | _ => .array .int
abbrev wsX30 : List Cond := u_ws RX3 TX3 10
theorem nmX3 : ∀ a, a < 10 → ∀ b, b < 10 → a ≠ b → (TX3 a).2.1 ≠ (TX3 b).2.1 := by decide +kernel
theorem tyX3_ok : ∀ k, k < 10 → parseFieldDescriptor (TX3 k).2.2.1 = some (tyX3 k) := by decide +kernel
theorem inX3 : ∀ w ∈ wsX30, w ∈ lw_tbl := by decide +kernel
abbrev cX3_init : ByteArray := prog_5_method_1_code
def yX3_init : MethodName := ⟨RX3, "<init>", "()V"⟩
abbrev cX3_write : ByteArray := prog_5_method_2_code
def yX3_write : MethodName := ⟨RX3, "write", "(I)V"⟩
abbrev cX3_writeTwo : ByteArray := prog_5_method_3_code
def yX3_writeTwo : MethodName := ⟨RX3, "writeTwo", "(I)V"⟩
abbrev cX3_two : ByteArray := prog_5_method_4_code
def yX3_two : MethodName := ⟨RX3, "two", "(I)I"⟩
abbrev cX3_alike : ByteArray := prog_5_method_5_code
def yX3_alike : MethodName := ⟨RX3, "alike", "(II)I"⟩
abbrev cX3_behind : ByteArray := prog_5_method_6_code
def yX3_behind : MethodName := ⟨RX3, "behind", "(I)I"⟩
abbrev cX3_many : ByteArray := prog_5_method_7_code
def yX3_many : MethodName := ⟨RX3, "many", "(I)I"⟩
abbrev cX3_thrown : ByteArray := prog_5_method_8_code
def yX3_thrown : MethodName := ⟨RX3, "thrown", "()I"⟩
abbrev cX3_put : ByteArray := prog_5_method_9_code
def yX3_put : MethodName := ⟨RX3, "put", "(ZJI)Z"⟩
abbrev cX3_clear : ByteArray := prog_5_method_10_code
def yX3_clear : MethodName := ⟨RX3, "clear", "(Z)V"⟩
abbrev cX3_make : ByteArray := prog_5_method_11_code
def yX3_make : MethodName := ⟨RX3, "make", "()I"⟩
abbrev cX3_piece : ByteArray := prog_5_method_12_code
def yX3_piece : MethodName := ⟨RX3, "piece", "(II)I"⟩
abbrev cX3_size : ByteArray := prog_5_method_13_code
def yX3_size : MethodName := ⟨RX3, "size", "()I"⟩
abbrev cX3_way : ByteArray := prog_5_method_14_code
def yX3_way : MethodName := ⟨RX3, "way", "(I)I"⟩
abbrev cX3_go : ByteArray := prog_5_method_15_code
def yX3_go : MethodName := ⟨RX3, "go", "()I"⟩
abbrev cX3_result : ByteArray := prog_5_method_16_code
def yX3_result : MethodName := ⟨RX3, "result", "(I)I"⟩
abbrev cX3_count : ByteArray := prog_5_method_17_code
def yX3_count : MethodName := ⟨RX3, "count", "(I)I"⟩
def wsX3_init : List Cond := .code yX3_init cX3_init 1 none :: ([.methodLink RX3 1 objectInit, .instanceMethod objectInit, .code objectInit ⟨#[0xb1]⟩ 1 none, .fieldLink RX3 7 "PieceWaysModel" "thrownCode" "I", .arrayClass .int, .fieldLink RX3 13 "PieceWaysModel" "base" "[I", .fieldLink RX3 17 "PieceWaysModel" "bases" "I", .fieldLink RX3 20 "PieceWaysModel" "target" "[I", .fieldLink RX3 23 "PieceWaysModel" "targets" "I", .fieldLink RX3 26 "PieceWaysModel" "row" "[I", .fieldLink RX3 29 "PieceWaysModel" "size" "I", .fieldLink RX3 32 "PieceWaysModel" "result" "[I", .fieldLink RX3 35 "PieceWaysModel" "results" "I", .fieldLink RX3 38 "PieceWaysModel" "next" "[I"] ++ wsX30)
def wsX3_write : List Cond := .code yX3_write cX3_write 2 none :: ([.fieldLink RX3 26 "PieceWaysModel" "row" "[I", .fieldLink RX3 29 "PieceWaysModel" "size" "I"] ++ wsX30)
def wsX3_writeTwo : List Cond := .code yX3_writeTwo cX3_writeTwo 2 none :: ([.methodLink RX3 41 yX3_write, .instanceMethod yX3_write, .selects RX3 yX3_write yX3_write, .initialized RX3, .code yX3_write cX3_write 2 none, .fieldLink RX3 26 "PieceWaysModel" "row" "[I", .fieldLink RX3 29 "PieceWaysModel" "size" "I"] ++ wsX30)
def wsX3_two : List Cond := .code yX3_two cX3_two 2 (some .int) :: ([.fieldLink RX3 26 "PieceWaysModel" "row" "[I"] ++ wsX30)
def wsX3_alike : List Cond := .code yX3_alike cX3_alike 4 (some .int) :: ([.fieldLink RX3 17 "PieceWaysModel" "bases" "I", .fieldLink RX3 23 "PieceWaysModel" "targets" "I", .fieldLink RX3 13 "PieceWaysModel" "base" "[I", .fieldLink RX3 20 "PieceWaysModel" "target" "[I"] ++ wsX30)
def wsX3_behind : List Cond := .code yX3_behind cX3_behind 2 (some .int) :: ([.fieldLink RX3 26 "PieceWaysModel" "row" "[I", .methodLink RX3 45 yX3_two, .instanceMethod yX3_two, .selects RX3 yX3_two yX3_two, .initialized RX3, .code yX3_two cX3_two 2 (some .int)] ++ wsX30)
def wsX3_many : List Cond := .code yX3_many cX3_many 2 (some .int) :: ([.fieldLink RX3 26 "PieceWaysModel" "row" "[I", .methodLink RX3 45 yX3_two, .instanceMethod yX3_two, .selects RX3 yX3_two yX3_two, .initialized RX3, .code yX3_two cX3_two 2 (some .int)] ++ wsX30)
def wsX3_thrown : List Cond := .code yX3_thrown cX3_thrown 1 (some .int) :: ([.fieldLink RX3 7 "PieceWaysModel" "thrownCode" "I"] ++ wsX30)
def wsX3_put : List Cond := .code yX3_put cX3_put 8 (some .boolean) :: ([.fieldLink RX3 7 "PieceWaysModel" "thrownCode" "I", .fieldLink RX3 23 "PieceWaysModel" "targets" "I", .fieldLink RX3 17 "PieceWaysModel" "bases" "I", .fieldLink RX3 20 "PieceWaysModel" "target" "[I", .fieldLink RX3 13 "PieceWaysModel" "base" "[I"] ++ wsX30)
def wsX3_clear : List Cond := .code yX3_clear cX3_clear 2 none :: ([.fieldLink RX3 7 "PieceWaysModel" "thrownCode" "I", .fieldLink RX3 23 "PieceWaysModel" "targets" "I", .fieldLink RX3 17 "PieceWaysModel" "bases" "I"] ++ wsX30)
def wsX3_make : List Cond := .code yX3_make cX3_make 8 (some .int) :: ([.fieldLink RX3 7 "PieceWaysModel" "thrownCode" "I", .fieldLink RX3 29 "PieceWaysModel" "size" "I", .fieldLink RX3 23 "PieceWaysModel" "targets" "I", .fieldLink RX3 17 "PieceWaysModel" "bases" "I", .methodLink RX3 49 yX3_alike, .instanceMethod yX3_alike, .selects RX3 yX3_alike yX3_alike, .initialized RX3, .methodLink RX3 41 yX3_write, .instanceMethod yX3_write, .selects RX3 yX3_write yX3_write, .methodLink RX3 53 yX3_writeTwo, .instanceMethod yX3_writeTwo, .selects RX3 yX3_writeTwo yX3_writeTwo, .methodLink RX3 45 yX3_two, .instanceMethod yX3_two, .selects RX3 yX3_two yX3_two, .fieldLink RX3 26 "PieceWaysModel" "row" "[I", .fieldLink RX3 20 "PieceWaysModel" "target" "[I", .code yX3_alike cX3_alike 4 (some .int), .fieldLink RX3 13 "PieceWaysModel" "base" "[I", .code yX3_write cX3_write 2 none, .code yX3_writeTwo cX3_writeTwo 2 none, .code yX3_two cX3_two 2 (some .int)] ++ wsX30)
def wsX3_piece : List Cond := .code yX3_piece cX3_piece 6 (some .int) :: ([.fieldLink RX3 7 "PieceWaysModel" "thrownCode" "I", .fieldLink RX3 29 "PieceWaysModel" "size" "I", .methodLink RX3 56 yX3_many, .instanceMethod yX3_many, .selects RX3 yX3_many yX3_many, .initialized RX3, .methodLink RX3 59 yX3_behind, .instanceMethod yX3_behind, .selects RX3 yX3_behind yX3_behind, .fieldLink RX3 26 "PieceWaysModel" "row" "[I", .methodLink RX3 45 yX3_two, .instanceMethod yX3_two, .selects RX3 yX3_two yX3_two, .code yX3_many cX3_many 2 (some .int), .code yX3_two cX3_two 2 (some .int), .code yX3_behind cX3_behind 2 (some .int)] ++ wsX30)
def wsX3_size : List Cond := .code yX3_size cX3_size 1 (some .int) :: ([.fieldLink RX3 7 "PieceWaysModel" "thrownCode" "I", .fieldLink RX3 29 "PieceWaysModel" "size" "I"] ++ wsX30)
def wsX3_way : List Cond := .code yX3_way cX3_way 2 (some .int) :: ([.fieldLink RX3 7 "PieceWaysModel" "thrownCode" "I", .fieldLink RX3 29 "PieceWaysModel" "size" "I", .fieldLink RX3 26 "PieceWaysModel" "row" "[I"] ++ wsX30)
def wsX3_go : List Cond := .code yX3_go cX3_go 5 (some .int) :: ([.fieldLink RX3 7 "PieceWaysModel" "thrownCode" "I", .fieldLink RX3 29 "PieceWaysModel" "size" "I", .methodLink RX3 56 yX3_many, .instanceMethod yX3_many, .selects RX3 yX3_many yX3_many, .initialized RX3, .fieldLink RX3 26 "PieceWaysModel" "row" "[I", .methodLink RX3 45 yX3_two, .instanceMethod yX3_two, .selects RX3 yX3_two yX3_two, .fieldLink RX3 17 "PieceWaysModel" "bases" "I", .fieldLink RX3 38 "PieceWaysModel" "next" "[I", .fieldLink RX3 13 "PieceWaysModel" "base" "[I", .methodLink RX3 59 yX3_behind, .instanceMethod yX3_behind, .selects RX3 yX3_behind yX3_behind, .fieldLink RX3 32 "PieceWaysModel" "result" "[I", .fieldLink RX3 35 "PieceWaysModel" "results" "I", .code yX3_many cX3_many 2 (some .int), .code yX3_two cX3_two 2 (some .int), .code yX3_behind cX3_behind 2 (some .int)] ++ wsX30)
def wsX3_result : List Cond := .code yX3_result cX3_result 2 (some .int) :: ([.fieldLink RX3 7 "PieceWaysModel" "thrownCode" "I", .fieldLink RX3 35 "PieceWaysModel" "results" "I", .fieldLink RX3 32 "PieceWaysModel" "result" "[I"] ++ wsX30)
def wsX3_count : List Cond := .code yX3_count cX3_count 2 (some .int) :: ([.fieldLink RX3 7 "PieceWaysModel" "thrownCode" "I", .fieldLink RX3 17 "PieceWaysModel" "bases" "I", .fieldLink RX3 23 "PieceWaysModel" "targets" "I", .fieldLink RX3 35 "PieceWaysModel" "results" "I"] ++ wsX30)
set_option maxRecDepth 20000 in
theorem gX3_writeTwo_X3_write : GoodIn wsX3_writeTwo (wsV RX3 41 RX3 yX3_write wsX3_write) := goodIn_p _ [5] rfl (by decide +kernel)
set_option maxRecDepth 20000 in
theorem gX3_behind_X3_two : GoodIn wsX3_behind (wsV RX3 45 RX3 yX3_two wsX3_two) := goodIn_p _ [6] rfl (by decide +kernel)
set_option maxRecDepth 20000 in
theorem gX3_many_X3_two : GoodIn wsX3_many (wsV RX3 45 RX3 yX3_two wsX3_two) := goodIn_p _ [6] rfl (by decide +kernel)
set_option maxRecDepth 20000 in
theorem gX3_make_X3_alike : GoodIn wsX3_make (wsV RX3 49 RX3 yX3_alike wsX3_alike) := goodIn_p _ [20] rfl (by decide +kernel)
set_option maxRecDepth 20000 in
theorem gX3_make_X3_write : GoodIn wsX3_make (wsV RX3 41 RX3 yX3_write wsX3_write) := goodIn_p _ [22] rfl (by decide +kernel)
set_option maxRecDepth 20000 in
theorem gX3_make_X3_writeTwo : GoodIn wsX3_make (wsV RX3 53 RX3 yX3_writeTwo wsX3_writeTwo) := goodIn_p _ [23, 22] rfl (by decide +kernel)
set_option maxRecDepth 20000 in
theorem gX3_make_X3_two : GoodIn wsX3_make (wsV RX3 45 RX3 yX3_two wsX3_two) := goodIn_p _ [24] rfl (by decide +kernel)
set_option maxRecDepth 20000 in
theorem gX3_piece_X3_many : GoodIn wsX3_piece (wsV RX3 56 RX3 yX3_many wsX3_many) := goodIn_p _ [14, 15] rfl (by decide +kernel)
set_option maxRecDepth 20000 in
theorem gX3_piece_X3_behind : GoodIn wsX3_piece (wsV RX3 59 RX3 yX3_behind wsX3_behind) := goodIn_p _ [16, 15] rfl (by decide +kernel)
set_option maxRecDepth 20000 in
theorem gX3_piece_X3_two : GoodIn wsX3_piece (wsV RX3 45 RX3 yX3_two wsX3_two) := goodIn_p _ [15] rfl (by decide +kernel)
set_option maxRecDepth 20000 in
theorem gX3_go_X3_many : GoodIn wsX3_go (wsV RX3 56 RX3 yX3_many wsX3_many) := goodIn_p _ [19, 20] rfl (by decide +kernel)
set_option maxRecDepth 20000 in
theorem gX3_go_X3_two : GoodIn wsX3_go (wsV RX3 45 RX3 yX3_two wsX3_two) := goodIn_p _ [20] rfl (by decide +kernel)
set_option maxRecDepth 20000 in
theorem gX3_go_X3_behind : GoodIn wsX3_go (wsV RX3 59 RX3 yX3_behind wsX3_behind) := goodIn_p _ [21, 20] rfl (by decide +kernel)
theorem dX3_init_0 : decode cX3_init 0 = .ok (.aload_n 0, 1) := by decide +kernel
theorem dX3_init_1 : decode cX3_init 1 = .ok (.invokespecial 1, 3) := by decide +kernel
theorem dX3_init_4 : decode cX3_init 4 = .ok (.aload_n 0, 1) := by decide +kernel
theorem dX3_init_5 : decode cX3_init 5 = .ok (.iconst 0, 1) := by decide +kernel
theorem dX3_init_6 : decode cX3_init 6 = .ok (.putfield 7, 3) := by decide +kernel
theorem dX3_init_9 : decode cX3_init 9 = .ok (.aload_n 0, 1) := by decide +kernel
theorem dX3_init_10 : decode cX3_init 10 = .ok (.sipush 600, 3) := by decide +kernel
theorem dX3_init_13 : decode cX3_init 13 = .ok (.newarray .int, 2) := by decide +kernel
theorem dX3_init_15 : decode cX3_init 15 = .ok (.putfield 13, 3) := by decide +kernel
theorem dX3_init_18 : decode cX3_init 18 = .ok (.aload_n 0, 1) := by decide +kernel
theorem dX3_init_19 : decode cX3_init 19 = .ok (.iconst 0, 1) := by decide +kernel
theorem dX3_init_20 : decode cX3_init 20 = .ok (.putfield 17, 3) := by decide +kernel
theorem dX3_init_23 : decode cX3_init 23 = .ok (.aload_n 0, 1) := by decide +kernel
theorem dX3_init_24 : decode cX3_init 24 = .ok (.sipush 600, 3) := by decide +kernel
theorem dX3_init_27 : decode cX3_init 27 = .ok (.newarray .int, 2) := by decide +kernel
theorem dX3_init_29 : decode cX3_init 29 = .ok (.putfield 20, 3) := by decide +kernel
theorem dX3_init_32 : decode cX3_init 32 = .ok (.aload_n 0, 1) := by decide +kernel
theorem dX3_init_33 : decode cX3_init 33 = .ok (.iconst 0, 1) := by decide +kernel
theorem dX3_init_34 : decode cX3_init 34 = .ok (.putfield 23, 3) := by decide +kernel
theorem dX3_init_37 : decode cX3_init 37 = .ok (.aload_n 0, 1) := by decide +kernel
theorem dX3_init_38 : decode cX3_init 38 = .ok (.sipush 2000, 3) := by decide +kernel
theorem dX3_init_41 : decode cX3_init 41 = .ok (.newarray .int, 2) := by decide +kernel
theorem dX3_init_43 : decode cX3_init 43 = .ok (.putfield 26, 3) := by decide +kernel
theorem dX3_init_46 : decode cX3_init 46 = .ok (.aload_n 0, 1) := by decide +kernel
theorem dX3_init_47 : decode cX3_init 47 = .ok (.iconst 0, 1) := by decide +kernel
theorem dX3_init_48 : decode cX3_init 48 = .ok (.putfield 29, 3) := by decide +kernel
theorem dX3_init_51 : decode cX3_init 51 = .ok (.aload_n 0, 1) := by decide +kernel
theorem dX3_init_52 : decode cX3_init 52 = .ok (.sipush 600, 3) := by decide +kernel
theorem dX3_init_55 : decode cX3_init 55 = .ok (.newarray .int, 2) := by decide +kernel
theorem dX3_init_57 : decode cX3_init 57 = .ok (.putfield 32, 3) := by decide +kernel
theorem dX3_init_60 : decode cX3_init 60 = .ok (.aload_n 0, 1) := by decide +kernel
theorem dX3_init_61 : decode cX3_init 61 = .ok (.iconst 0, 1) := by decide +kernel
theorem dX3_init_62 : decode cX3_init 62 = .ok (.putfield 35, 3) := by decide +kernel
theorem dX3_init_65 : decode cX3_init 65 = .ok (.aload_n 0, 1) := by decide +kernel
theorem dX3_init_66 : decode cX3_init 66 = .ok (.sipush 600, 3) := by decide +kernel
theorem dX3_init_69 : decode cX3_init 69 = .ok (.newarray .int, 2) := by decide +kernel
theorem dX3_init_71 : decode cX3_init 71 = .ok (.putfield 38, 3) := by decide +kernel
theorem dX3_init_74 : decode cX3_init 74 = .ok (.return_, 1) := by decide +kernel
theorem dX3_write_0 : decode cX3_write 0 = .ok (.aload_n 0, 1) := by decide +kernel
theorem dX3_write_1 : decode cX3_write 1 = .ok (.getfield 26, 3) := by decide +kernel
theorem dX3_write_4 : decode cX3_write 4 = .ok (.aload_n 0, 1) := by decide +kernel
theorem dX3_write_5 : decode cX3_write 5 = .ok (.getfield 29, 3) := by decide +kernel
theorem dX3_write_8 : decode cX3_write 8 = .ok (.iload_n 1, 1) := by decide +kernel
theorem dX3_write_9 : decode cX3_write 9 = .ok (.iastore, 1) := by decide +kernel
theorem dX3_write_10 : decode cX3_write 10 = .ok (.aload_n 0, 1) := by decide +kernel
theorem dX3_write_11 : decode cX3_write 11 = .ok (.dup, 1) := by decide +kernel
theorem dX3_write_12 : decode cX3_write 12 = .ok (.getfield 29, 3) := by decide +kernel
theorem dX3_write_15 : decode cX3_write 15 = .ok (.iconst 1, 1) := by decide +kernel
theorem dX3_write_16 : decode cX3_write 16 = .ok (.iadd, 1) := by decide +kernel
theorem dX3_write_17 : decode cX3_write 17 = .ok (.putfield 29, 3) := by decide +kernel
theorem dX3_write_20 : decode cX3_write 20 = .ok (.return_, 1) := by decide +kernel
theorem dX3_writeTwo_0 : decode cX3_writeTwo 0 = .ok (.aload_n 0, 1) := by decide +kernel
theorem dX3_writeTwo_1 : decode cX3_writeTwo 1 = .ok (.iload_n 1, 1) := by decide +kernel
theorem dX3_writeTwo_2 : decode cX3_writeTwo 2 = .ok (.sipush 256, 3) := by decide +kernel
theorem dX3_writeTwo_5 : decode cX3_writeTwo 5 = .ok (.idiv, 1) := by decide +kernel
theorem dX3_writeTwo_6 : decode cX3_writeTwo 6 = .ok (.invokevirtual 41, 3) := by decide +kernel
theorem dX3_writeTwo_9 : decode cX3_writeTwo 9 = .ok (.aload_n 0, 1) := by decide +kernel
theorem dX3_writeTwo_10 : decode cX3_writeTwo 10 = .ok (.iload_n 1, 1) := by decide +kernel
theorem dX3_writeTwo_11 : decode cX3_writeTwo 11 = .ok (.sipush 256, 3) := by decide +kernel
theorem dX3_writeTwo_14 : decode cX3_writeTwo 14 = .ok (.irem, 1) := by decide +kernel
theorem dX3_writeTwo_15 : decode cX3_writeTwo 15 = .ok (.invokevirtual 41, 3) := by decide +kernel
theorem dX3_writeTwo_18 : decode cX3_writeTwo 18 = .ok (.return_, 1) := by decide +kernel
theorem dX3_two_0 : decode cX3_two 0 = .ok (.sipush 256, 3) := by decide +kernel
theorem dX3_two_3 : decode cX3_two 3 = .ok (.aload_n 0, 1) := by decide +kernel
theorem dX3_two_4 : decode cX3_two 4 = .ok (.getfield 26, 3) := by decide +kernel
theorem dX3_two_7 : decode cX3_two 7 = .ok (.iload_n 1, 1) := by decide +kernel
theorem dX3_two_8 : decode cX3_two 8 = .ok (.iaload, 1) := by decide +kernel
theorem dX3_two_9 : decode cX3_two 9 = .ok (.imul, 1) := by decide +kernel
theorem dX3_two_10 : decode cX3_two 10 = .ok (.aload_n 0, 1) := by decide +kernel
theorem dX3_two_11 : decode cX3_two 11 = .ok (.getfield 26, 3) := by decide +kernel
theorem dX3_two_14 : decode cX3_two 14 = .ok (.iload_n 1, 1) := by decide +kernel
theorem dX3_two_15 : decode cX3_two 15 = .ok (.iconst 1, 1) := by decide +kernel
theorem dX3_two_16 : decode cX3_two 16 = .ok (.iadd, 1) := by decide +kernel
theorem dX3_two_17 : decode cX3_two 17 = .ok (.iaload, 1) := by decide +kernel
theorem dX3_two_18 : decode cX3_two 18 = .ok (.iadd, 1) := by decide +kernel
theorem dX3_two_19 : decode cX3_two 19 = .ok (.ireturn, 1) := by decide +kernel
theorem dX3_alike_0 : decode cX3_alike 0 = .ok (.iconst 0, 1) := by decide +kernel
theorem dX3_alike_1 : decode cX3_alike 1 = .ok (.istore_n 3, 1) := by decide +kernel
theorem dX3_alike_2 : decode cX3_alike 2 = .ok (.iload_n 1, 1) := by decide +kernel
theorem dX3_alike_3 : decode cX3_alike 3 = .ok (.iload_n 3, 1) := by decide +kernel
theorem dX3_alike_4 : decode cX3_alike 4 = .ok (.iadd, 1) := by decide +kernel
theorem dX3_alike_5 : decode cX3_alike 5 = .ok (.aload_n 0, 1) := by decide +kernel
theorem dX3_alike_6 : decode cX3_alike 6 = .ok (.getfield 17, 3) := by decide +kernel
theorem dX3_alike_9 : decode cX3_alike 9 = .ok (.if_icmp .ge 38, 3) := by decide +kernel
theorem dX3_alike_12 : decode cX3_alike 12 = .ok (.iload_n 2, 1) := by decide +kernel
theorem dX3_alike_13 : decode cX3_alike 13 = .ok (.iload_n 3, 1) := by decide +kernel
theorem dX3_alike_14 : decode cX3_alike 14 = .ok (.iadd, 1) := by decide +kernel
theorem dX3_alike_15 : decode cX3_alike 15 = .ok (.aload_n 0, 1) := by decide +kernel
theorem dX3_alike_16 : decode cX3_alike 16 = .ok (.getfield 23, 3) := by decide +kernel
theorem dX3_alike_19 : decode cX3_alike 19 = .ok (.if_icmp .ge 28, 3) := by decide +kernel
theorem dX3_alike_22 : decode cX3_alike 22 = .ok (.aload_n 0, 1) := by decide +kernel
theorem dX3_alike_23 : decode cX3_alike 23 = .ok (.getfield 13, 3) := by decide +kernel
theorem dX3_alike_26 : decode cX3_alike 26 = .ok (.iload_n 1, 1) := by decide +kernel
theorem dX3_alike_27 : decode cX3_alike 27 = .ok (.iload_n 3, 1) := by decide +kernel
theorem dX3_alike_28 : decode cX3_alike 28 = .ok (.iadd, 1) := by decide +kernel
theorem dX3_alike_29 : decode cX3_alike 29 = .ok (.iaload, 1) := by decide +kernel
theorem dX3_alike_30 : decode cX3_alike 30 = .ok (.aload_n 0, 1) := by decide +kernel
theorem dX3_alike_31 : decode cX3_alike 31 = .ok (.getfield 20, 3) := by decide +kernel
theorem dX3_alike_34 : decode cX3_alike 34 = .ok (.iload_n 2, 1) := by decide +kernel
theorem dX3_alike_35 : decode cX3_alike 35 = .ok (.iload_n 3, 1) := by decide +kernel
theorem dX3_alike_36 : decode cX3_alike 36 = .ok (.iadd, 1) := by decide +kernel
theorem dX3_alike_37 : decode cX3_alike 37 = .ok (.iaload, 1) := by decide +kernel
theorem dX3_alike_38 : decode cX3_alike 38 = .ok (.if_icmp .ne 9, 3) := by decide +kernel
theorem dX3_alike_41 : decode cX3_alike 41 = .ok (.iinc 3 1, 3) := by decide +kernel
theorem dX3_alike_44 : decode cX3_alike 44 = .ok (.goto (-42), 3) := by decide +kernel
theorem dX3_alike_47 : decode cX3_alike 47 = .ok (.iload_n 3, 1) := by decide +kernel
theorem dX3_alike_48 : decode cX3_alike 48 = .ok (.ireturn, 1) := by decide +kernel
theorem dX3_behind_0 : decode cX3_behind 0 = .ok (.aload_n 0, 1) := by decide +kernel
theorem dX3_behind_1 : decode cX3_behind 1 = .ok (.getfield 26, 3) := by decide +kernel
theorem dX3_behind_4 : decode cX3_behind 4 = .ok (.iload_n 1, 1) := by decide +kernel
theorem dX3_behind_5 : decode cX3_behind 5 = .ok (.iaload, 1) := by decide +kernel
theorem dX3_behind_6 : decode cX3_behind 6 = .ok (.iconst 1, 1) := by decide +kernel
theorem dX3_behind_7 : decode cX3_behind 7 = .ok (.if_icmp .ne 9, 3) := by decide +kernel
theorem dX3_behind_10 : decode cX3_behind 10 = .ok (.iload_n 1, 1) := by decide +kernel
theorem dX3_behind_11 : decode cX3_behind 11 = .ok (.iconst 5, 1) := by decide +kernel
theorem dX3_behind_12 : decode cX3_behind 12 = .ok (.iadd, 1) := by decide +kernel
theorem dX3_behind_13 : decode cX3_behind 13 = .ok (.goto 14, 3) := by decide +kernel
theorem dX3_behind_16 : decode cX3_behind 16 = .ok (.iload_n 1, 1) := by decide +kernel
theorem dX3_behind_17 : decode cX3_behind 17 = .ok (.iconst 3, 1) := by decide +kernel
theorem dX3_behind_18 : decode cX3_behind 18 = .ok (.iadd, 1) := by decide +kernel
theorem dX3_behind_19 : decode cX3_behind 19 = .ok (.aload_n 0, 1) := by decide +kernel
theorem dX3_behind_20 : decode cX3_behind 20 = .ok (.iload_n 1, 1) := by decide +kernel
theorem dX3_behind_21 : decode cX3_behind 21 = .ok (.iconst 1, 1) := by decide +kernel
theorem dX3_behind_22 : decode cX3_behind 22 = .ok (.iadd, 1) := by decide +kernel
theorem dX3_behind_23 : decode cX3_behind 23 = .ok (.invokevirtual 45, 3) := by decide +kernel
theorem dX3_behind_26 : decode cX3_behind 26 = .ok (.iadd, 1) := by decide +kernel
theorem dX3_behind_27 : decode cX3_behind 27 = .ok (.ireturn, 1) := by decide +kernel
theorem dX3_many_0 : decode cX3_many 0 = .ok (.aload_n 0, 1) := by decide +kernel
theorem dX3_many_1 : decode cX3_many 1 = .ok (.aload_n 0, 1) := by decide +kernel
theorem dX3_many_2 : decode cX3_many 2 = .ok (.getfield 26, 3) := by decide +kernel
theorem dX3_many_5 : decode cX3_many 5 = .ok (.iload_n 1, 1) := by decide +kernel
theorem dX3_many_6 : decode cX3_many 6 = .ok (.iaload, 1) := by decide +kernel
theorem dX3_many_7 : decode cX3_many 7 = .ok (.iconst 1, 1) := by decide +kernel
theorem dX3_many_8 : decode cX3_many 8 = .ok (.if_icmp .ne 9, 3) := by decide +kernel
theorem dX3_many_11 : decode cX3_many 11 = .ok (.iload_n 1, 1) := by decide +kernel
theorem dX3_many_12 : decode cX3_many 12 = .ok (.iconst 3, 1) := by decide +kernel
theorem dX3_many_13 : decode cX3_many 13 = .ok (.iadd, 1) := by decide +kernel
theorem dX3_many_14 : decode cX3_many 14 = .ok (.goto 6, 3) := by decide +kernel
theorem dX3_many_17 : decode cX3_many 17 = .ok (.iload_n 1, 1) := by decide +kernel
theorem dX3_many_18 : decode cX3_many 18 = .ok (.iconst 1, 1) := by decide +kernel
theorem dX3_many_19 : decode cX3_many 19 = .ok (.iadd, 1) := by decide +kernel
theorem dX3_many_20 : decode cX3_many 20 = .ok (.invokevirtual 45, 3) := by decide +kernel
theorem dX3_many_23 : decode cX3_many 23 = .ok (.ireturn, 1) := by decide +kernel
theorem dX3_thrown_0 : decode cX3_thrown 0 = .ok (.aload_n 0, 1) := by decide +kernel
theorem dX3_thrown_1 : decode cX3_thrown 1 = .ok (.getfield 7, 3) := by decide +kernel
theorem dX3_thrown_4 : decode cX3_thrown 4 = .ok (.ireturn, 1) := by decide +kernel
theorem dX3_put_0 : decode cX3_put 0 = .ok (.aload_n 0, 1) := by decide +kernel
theorem dX3_put_1 : decode cX3_put 1 = .ok (.iconst 0, 1) := by decide +kernel
theorem dX3_put_2 : decode cX3_put 2 = .ok (.putfield 7, 3) := by decide +kernel
theorem dX3_put_5 : decode cX3_put 5 = .ok (.iload_n 1, 1) := by decide +kernel
theorem dX3_put_6 : decode cX3_put 6 = .ok (.ifCond .eq 10, 3) := by decide +kernel
theorem dX3_put_9 : decode cX3_put 9 = .ok (.aload_n 0, 1) := by decide +kernel
theorem dX3_put_10 : decode cX3_put 10 = .ok (.getfield 23, 3) := by decide +kernel
theorem dX3_put_13 : decode cX3_put 13 = .ok (.goto 7, 3) := by decide +kernel
theorem dX3_put_16 : decode cX3_put 16 = .ok (.aload_n 0, 1) := by decide +kernel
theorem dX3_put_17 : decode cX3_put 17 = .ok (.getfield 17, 3) := by decide +kernel
theorem dX3_put_20 : decode cX3_put 20 = .ok (.istore 5, 2) := by decide +kernel
theorem dX3_put_22 : decode cX3_put 22 = .ok (.iload 4, 2) := by decide +kernel
theorem dX3_put_24 : decode cX3_put 24 = .ok (.ifCond .lt 21, 3) := by decide +kernel
theorem dX3_put_27 : decode cX3_put 27 = .ok (.iload 4, 2) := by decide +kernel
theorem dX3_put_29 : decode cX3_put 29 = .ok (.bipush 8, 2) := by decide +kernel
theorem dX3_put_31 : decode cX3_put 31 = .ok (.if_icmp .gt 14, 3) := by decide +kernel
theorem dX3_put_34 : decode cX3_put 34 = .ok (.iload 5, 2) := by decide +kernel
theorem dX3_put_36 : decode cX3_put 36 = .ok (.iload 4, 2) := by decide +kernel
theorem dX3_put_38 : decode cX3_put 38 = .ok (.iadd, 1) := by decide +kernel
theorem dX3_put_39 : decode cX3_put 39 = .ok (.sipush 600, 3) := by decide +kernel
theorem dX3_put_42 : decode cX3_put 42 = .ok (.if_icmp .le 5, 3) := by decide +kernel
theorem dX3_put_45 : decode cX3_put 45 = .ok (.iconst 0, 1) := by decide +kernel
theorem dX3_put_46 : decode cX3_put 46 = .ok (.ireturn, 1) := by decide +kernel
theorem dX3_put_47 : decode cX3_put 47 = .ok (.iload 4, 2) := by decide +kernel
theorem dX3_put_49 : decode cX3_put 49 = .ok (.iconst 1, 1) := by decide +kernel
theorem dX3_put_50 : decode cX3_put 50 = .ok (.isub, 1) := by decide +kernel
theorem dX3_put_51 : decode cX3_put 51 = .ok (.istore 6, 2) := by decide +kernel
theorem dX3_put_53 : decode cX3_put 53 = .ok (.iload 6, 2) := by decide +kernel
theorem dX3_put_55 : decode cX3_put 55 = .ok (.ifCond .lt 72, 3) := by decide +kernel
theorem dX3_put_58 : decode cX3_put 58 = .ok (.lload_n 2, 1) := by decide +kernel
theorem dX3_put_59 : decode cX3_put 59 = .ok (.bipush 8, 2) := by decide +kernel
theorem dX3_put_61 : decode cX3_put 61 = .ok (.iload 6, 2) := by decide +kernel
theorem dX3_put_63 : decode cX3_put 63 = .ok (.imul, 1) := by decide +kernel
theorem dX3_put_64 : decode cX3_put 64 = .ok (.lshr, 1) := by decide +kernel
theorem dX3_put_65 : decode cX3_put 65 = .ok (.l2i, 1) := by decide +kernel
theorem dX3_put_66 : decode cX3_put 66 = .ok (.sipush 255, 3) := by decide +kernel
theorem dX3_put_69 : decode cX3_put 69 = .ok (.iand, 1) := by decide +kernel
theorem dX3_put_70 : decode cX3_put 70 = .ok (.istore 7, 2) := by decide +kernel
theorem dX3_put_72 : decode cX3_put 72 = .ok (.iload_n 1, 1) := by decide +kernel
theorem dX3_put_73 : decode cX3_put 73 = .ok (.ifCond .eq 27, 3) := by decide +kernel
theorem dX3_put_76 : decode cX3_put 76 = .ok (.aload_n 0, 1) := by decide +kernel
theorem dX3_put_77 : decode cX3_put 77 = .ok (.getfield 20, 3) := by decide +kernel
theorem dX3_put_80 : decode cX3_put 80 = .ok (.aload_n 0, 1) := by decide +kernel
theorem dX3_put_81 : decode cX3_put 81 = .ok (.getfield 23, 3) := by decide +kernel
theorem dX3_put_84 : decode cX3_put 84 = .ok (.iload 7, 2) := by decide +kernel
theorem dX3_put_86 : decode cX3_put 86 = .ok (.iastore, 1) := by decide +kernel
theorem dX3_put_87 : decode cX3_put 87 = .ok (.aload_n 0, 1) := by decide +kernel
theorem dX3_put_88 : decode cX3_put 88 = .ok (.dup, 1) := by decide +kernel
theorem dX3_put_89 : decode cX3_put 89 = .ok (.getfield 23, 3) := by decide +kernel
theorem dX3_put_92 : decode cX3_put 92 = .ok (.iconst 1, 1) := by decide +kernel
theorem dX3_put_93 : decode cX3_put 93 = .ok (.iadd, 1) := by decide +kernel
theorem dX3_put_94 : decode cX3_put 94 = .ok (.putfield 23, 3) := by decide +kernel
theorem dX3_put_97 : decode cX3_put 97 = .ok (.goto 24, 3) := by decide +kernel
theorem dX3_put_100 : decode cX3_put 100 = .ok (.aload_n 0, 1) := by decide +kernel
theorem dX3_put_101 : decode cX3_put 101 = .ok (.getfield 13, 3) := by decide +kernel
theorem dX3_put_104 : decode cX3_put 104 = .ok (.aload_n 0, 1) := by decide +kernel
theorem dX3_put_105 : decode cX3_put 105 = .ok (.getfield 17, 3) := by decide +kernel
theorem dX3_put_108 : decode cX3_put 108 = .ok (.iload 7, 2) := by decide +kernel
theorem dX3_put_110 : decode cX3_put 110 = .ok (.iastore, 1) := by decide +kernel
theorem dX3_put_111 : decode cX3_put 111 = .ok (.aload_n 0, 1) := by decide +kernel
theorem dX3_put_112 : decode cX3_put 112 = .ok (.dup, 1) := by decide +kernel
theorem dX3_put_113 : decode cX3_put 113 = .ok (.getfield 17, 3) := by decide +kernel
theorem dX3_put_116 : decode cX3_put 116 = .ok (.iconst 1, 1) := by decide +kernel
theorem dX3_put_117 : decode cX3_put 117 = .ok (.iadd, 1) := by decide +kernel
theorem dX3_put_118 : decode cX3_put 118 = .ok (.putfield 17, 3) := by decide +kernel
theorem dX3_put_121 : decode cX3_put 121 = .ok (.iinc 6 (-1), 3) := by decide +kernel
theorem dX3_put_124 : decode cX3_put 124 = .ok (.goto (-71), 3) := by decide +kernel
theorem dX3_put_127 : decode cX3_put 127 = .ok (.iconst 1, 1) := by decide +kernel
theorem dX3_put_128 : decode cX3_put 128 = .ok (.ireturn, 1) := by decide +kernel
theorem dX3_clear_0 : decode cX3_clear 0 = .ok (.aload_n 0, 1) := by decide +kernel
theorem dX3_clear_1 : decode cX3_clear 1 = .ok (.iconst 0, 1) := by decide +kernel
theorem dX3_clear_2 : decode cX3_clear 2 = .ok (.putfield 7, 3) := by decide +kernel
theorem dX3_clear_5 : decode cX3_clear 5 = .ok (.iload_n 1, 1) := by decide +kernel
theorem dX3_clear_6 : decode cX3_clear 6 = .ok (.ifCond .eq 11, 3) := by decide +kernel
theorem dX3_clear_9 : decode cX3_clear 9 = .ok (.aload_n 0, 1) := by decide +kernel
theorem dX3_clear_10 : decode cX3_clear 10 = .ok (.iconst 0, 1) := by decide +kernel
theorem dX3_clear_11 : decode cX3_clear 11 = .ok (.putfield 23, 3) := by decide +kernel
theorem dX3_clear_14 : decode cX3_clear 14 = .ok (.goto 8, 3) := by decide +kernel
theorem dX3_clear_17 : decode cX3_clear 17 = .ok (.aload_n 0, 1) := by decide +kernel
theorem dX3_clear_18 : decode cX3_clear 18 = .ok (.iconst 0, 1) := by decide +kernel
theorem dX3_clear_19 : decode cX3_clear 19 = .ok (.putfield 17, 3) := by decide +kernel
theorem dX3_clear_22 : decode cX3_clear 22 = .ok (.return_, 1) := by decide +kernel
theorem dX3_make_0 : decode cX3_make 0 = .ok (.aload_n 0, 1) := by decide +kernel
theorem dX3_make_1 : decode cX3_make 1 = .ok (.iconst 0, 1) := by decide +kernel
theorem dX3_make_2 : decode cX3_make 2 = .ok (.putfield 7, 3) := by decide +kernel
theorem dX3_make_5 : decode cX3_make 5 = .ok (.aload_n 0, 1) := by decide +kernel
theorem dX3_make_6 : decode cX3_make 6 = .ok (.iconst 0, 1) := by decide +kernel
theorem dX3_make_7 : decode cX3_make 7 = .ok (.putfield 29, 3) := by decide +kernel
theorem dX3_make_10 : decode cX3_make 10 = .ok (.iconst 0, 1) := by decide +kernel
theorem dX3_make_11 : decode cX3_make 11 = .ok (.istore_n 1, 1) := by decide +kernel
theorem dX3_make_12 : decode cX3_make 12 = .ok (.iconst (-1), 1) := by decide +kernel
theorem dX3_make_13 : decode cX3_make 13 = .ok (.istore_n 2, 1) := by decide +kernel
theorem dX3_make_14 : decode cX3_make 14 = .ok (.iconst 0, 1) := by decide +kernel
theorem dX3_make_15 : decode cX3_make 15 = .ok (.istore_n 3, 1) := by decide +kernel
theorem dX3_make_16 : decode cX3_make 16 = .ok (.iload_n 3, 1) := by decide +kernel
theorem dX3_make_17 : decode cX3_make 17 = .ok (.aload_n 0, 1) := by decide +kernel
theorem dX3_make_18 : decode cX3_make 18 = .ok (.getfield 23, 3) := by decide +kernel
theorem dX3_make_21 : decode cX3_make 21 = .ok (.if_icmp .ge 169, 3) := by decide +kernel
theorem dX3_make_24 : decode cX3_make 24 = .ok (.bipush 7, 2) := by decide +kernel
theorem dX3_make_26 : decode cX3_make 26 = .ok (.istore 4, 2) := by decide +kernel
theorem dX3_make_28 : decode cX3_make 28 = .ok (.iconst 0, 1) := by decide +kernel
theorem dX3_make_29 : decode cX3_make 29 = .ok (.istore 5, 2) := by decide +kernel
theorem dX3_make_31 : decode cX3_make 31 = .ok (.iconst 0, 1) := by decide +kernel
theorem dX3_make_32 : decode cX3_make 32 = .ok (.istore 6, 2) := by decide +kernel
theorem dX3_make_34 : decode cX3_make 34 = .ok (.iload 6, 2) := by decide +kernel
theorem dX3_make_36 : decode cX3_make 36 = .ok (.bipush 8, 2) := by decide +kernel
theorem dX3_make_38 : decode cX3_make 38 = .ok (.iadd, 1) := by decide +kernel
theorem dX3_make_39 : decode cX3_make 39 = .ok (.aload_n 0, 1) := by decide +kernel
theorem dX3_make_40 : decode cX3_make 40 = .ok (.getfield 17, 3) := by decide +kernel
theorem dX3_make_43 : decode cX3_make 43 = .ok (.if_icmp .gt 33, 3) := by decide +kernel
theorem dX3_make_46 : decode cX3_make 46 = .ok (.aload_n 0, 1) := by decide +kernel
theorem dX3_make_47 : decode cX3_make 47 = .ok (.iload 6, 2) := by decide +kernel
theorem dX3_make_49 : decode cX3_make 49 = .ok (.iload_n 3, 1) := by decide +kernel
theorem dX3_make_50 : decode cX3_make 50 = .ok (.invokevirtual 49, 3) := by decide +kernel
theorem dX3_make_53 : decode cX3_make 53 = .ok (.istore 7, 2) := by decide +kernel
theorem dX3_make_55 : decode cX3_make 55 = .ok (.iload 7, 2) := by decide +kernel
theorem dX3_make_57 : decode cX3_make 57 = .ok (.iload 4, 2) := by decide +kernel
theorem dX3_make_59 : decode cX3_make 59 = .ok (.if_icmp .le 11, 3) := by decide +kernel
theorem dX3_make_62 : decode cX3_make 62 = .ok (.iload 7, 2) := by decide +kernel
theorem dX3_make_64 : decode cX3_make 64 = .ok (.istore 4, 2) := by decide +kernel
theorem dX3_make_66 : decode cX3_make 66 = .ok (.iload 6, 2) := by decide +kernel
theorem dX3_make_68 : decode cX3_make 68 = .ok (.istore 5, 2) := by decide +kernel
theorem dX3_make_70 : decode cX3_make 70 = .ok (.iinc 6 8, 3) := by decide +kernel
theorem dX3_make_73 : decode cX3_make 73 = .ok (.goto (-39), 3) := by decide +kernel
theorem dX3_make_76 : decode cX3_make 76 = .ok (.iload 4, 2) := by decide +kernel
theorem dX3_make_78 : decode cX3_make 78 = .ok (.bipush 7, 2) := by decide +kernel
theorem dX3_make_80 : decode cX3_make 80 = .ok (.if_icmp .le 33, 3) := by decide +kernel
theorem dX3_make_83 : decode cX3_make 83 = .ok (.aload_n 0, 1) := by decide +kernel
theorem dX3_make_84 : decode cX3_make 84 = .ok (.iconst 1, 1) := by decide +kernel
theorem dX3_make_85 : decode cX3_make 85 = .ok (.invokevirtual 41, 3) := by decide +kernel
theorem dX3_make_88 : decode cX3_make 88 = .ok (.aload_n 0, 1) := by decide +kernel
theorem dX3_make_89 : decode cX3_make 89 = .ok (.iload 5, 2) := by decide +kernel
theorem dX3_make_91 : decode cX3_make 91 = .ok (.invokevirtual 53, 3) := by decide +kernel
theorem dX3_make_94 : decode cX3_make 94 = .ok (.aload_n 0, 1) := by decide +kernel
theorem dX3_make_95 : decode cX3_make 95 = .ok (.iload 4, 2) := by decide +kernel
theorem dX3_make_97 : decode cX3_make 97 = .ok (.invokevirtual 53, 3) := by decide +kernel
theorem dX3_make_100 : decode cX3_make 100 = .ok (.iinc 1 1, 3) := by decide +kernel
theorem dX3_make_103 : decode cX3_make 103 = .ok (.iconst (-1), 1) := by decide +kernel
theorem dX3_make_104 : decode cX3_make 104 = .ok (.istore_n 2, 1) := by decide +kernel
theorem dX3_make_105 : decode cX3_make 105 = .ok (.iload_n 3, 1) := by decide +kernel
theorem dX3_make_106 : decode cX3_make 106 = .ok (.iload 4, 2) := by decide +kernel
theorem dX3_make_108 : decode cX3_make 108 = .ok (.iadd, 1) := by decide +kernel
theorem dX3_make_109 : decode cX3_make 109 = .ok (.istore_n 3, 1) := by decide +kernel
theorem dX3_make_110 : decode cX3_make 110 = .ok (.goto 77, 3) := by decide +kernel
theorem dX3_make_113 : decode cX3_make 113 = .ok (.iload_n 2, 1) := by decide +kernel
theorem dX3_make_114 : decode cX3_make 114 = .ok (.ifCond .ge 21, 3) := by decide +kernel
theorem dX3_make_117 : decode cX3_make 117 = .ok (.aload_n 0, 1) := by decide +kernel
theorem dX3_make_118 : decode cX3_make 118 = .ok (.getfield 29, 3) := by decide +kernel
theorem dX3_make_121 : decode cX3_make 121 = .ok (.istore_n 2, 1) := by decide +kernel
theorem dX3_make_122 : decode cX3_make 122 = .ok (.aload_n 0, 1) := by decide +kernel
theorem dX3_make_123 : decode cX3_make 123 = .ok (.iconst 2, 1) := by decide +kernel
theorem dX3_make_124 : decode cX3_make 124 = .ok (.invokevirtual 41, 3) := by decide +kernel
theorem dX3_make_127 : decode cX3_make 127 = .ok (.aload_n 0, 1) := by decide +kernel
theorem dX3_make_128 : decode cX3_make 128 = .ok (.iconst 0, 1) := by decide +kernel
theorem dX3_make_129 : decode cX3_make 129 = .ok (.invokevirtual 53, 3) := by decide +kernel
theorem dX3_make_132 : decode cX3_make 132 = .ok (.iinc 1 1, 3) := by decide +kernel
theorem dX3_make_135 : decode cX3_make 135 = .ok (.aload_n 0, 1) := by decide +kernel
theorem dX3_make_136 : decode cX3_make 136 = .ok (.iload_n 2, 1) := by decide +kernel
theorem dX3_make_137 : decode cX3_make 137 = .ok (.iconst 1, 1) := by decide +kernel
theorem dX3_make_138 : decode cX3_make 138 = .ok (.iadd, 1) := by decide +kernel
theorem dX3_make_139 : decode cX3_make 139 = .ok (.invokevirtual 45, 3) := by decide +kernel
theorem dX3_make_142 : decode cX3_make 142 = .ok (.iconst 1, 1) := by decide +kernel
theorem dX3_make_143 : decode cX3_make 143 = .ok (.iadd, 1) := by decide +kernel
theorem dX3_make_144 : decode cX3_make 144 = .ok (.istore 6, 2) := by decide +kernel
theorem dX3_make_146 : decode cX3_make 146 = .ok (.aload_n 0, 1) := by decide +kernel
theorem dX3_make_147 : decode cX3_make 147 = .ok (.getfield 26, 3) := by decide +kernel
theorem dX3_make_150 : decode cX3_make 150 = .ok (.iload_n 2, 1) := by decide +kernel
theorem dX3_make_151 : decode cX3_make 151 = .ok (.iconst 1, 1) := by decide +kernel
theorem dX3_make_152 : decode cX3_make 152 = .ok (.iadd, 1) := by decide +kernel
theorem dX3_make_153 : decode cX3_make 153 = .ok (.iload 6, 2) := by decide +kernel
theorem dX3_make_155 : decode cX3_make 155 = .ok (.sipush 256, 3) := by decide +kernel
theorem dX3_make_158 : decode cX3_make 158 = .ok (.idiv, 1) := by decide +kernel
theorem dX3_make_159 : decode cX3_make 159 = .ok (.iastore, 1) := by decide +kernel
theorem dX3_make_160 : decode cX3_make 160 = .ok (.aload_n 0, 1) := by decide +kernel
theorem dX3_make_161 : decode cX3_make 161 = .ok (.getfield 26, 3) := by decide +kernel
theorem dX3_make_164 : decode cX3_make 164 = .ok (.iload_n 2, 1) := by decide +kernel
theorem dX3_make_165 : decode cX3_make 165 = .ok (.iconst 2, 1) := by decide +kernel
theorem dX3_make_166 : decode cX3_make 166 = .ok (.iadd, 1) := by decide +kernel
theorem dX3_make_167 : decode cX3_make 167 = .ok (.iload 6, 2) := by decide +kernel
theorem dX3_make_169 : decode cX3_make 169 = .ok (.sipush 256, 3) := by decide +kernel
theorem dX3_make_172 : decode cX3_make 172 = .ok (.irem, 1) := by decide +kernel
theorem dX3_make_173 : decode cX3_make 173 = .ok (.iastore, 1) := by decide +kernel
theorem dX3_make_174 : decode cX3_make 174 = .ok (.aload_n 0, 1) := by decide +kernel
theorem dX3_make_175 : decode cX3_make 175 = .ok (.aload_n 0, 1) := by decide +kernel
theorem dX3_make_176 : decode cX3_make 176 = .ok (.getfield 20, 3) := by decide +kernel
theorem dX3_make_179 : decode cX3_make 179 = .ok (.iload_n 3, 1) := by decide +kernel
theorem dX3_make_180 : decode cX3_make 180 = .ok (.iaload, 1) := by decide +kernel
theorem dX3_make_181 : decode cX3_make 181 = .ok (.invokevirtual 41, 3) := by decide +kernel
theorem dX3_make_184 : decode cX3_make 184 = .ok (.iinc 3 1, 3) := by decide +kernel
theorem dX3_make_187 : decode cX3_make 187 = .ok (.goto (-171), 3) := by decide +kernel
theorem dX3_make_190 : decode cX3_make 190 = .ok (.iload_n 1, 1) := by decide +kernel
theorem dX3_make_191 : decode cX3_make 191 = .ok (.ireturn, 1) := by decide +kernel
theorem dX3_piece_0 : decode cX3_piece 0 = .ok (.aload_n 0, 1) := by decide +kernel
theorem dX3_piece_1 : decode cX3_piece 1 = .ok (.iconst 0, 1) := by decide +kernel
theorem dX3_piece_2 : decode cX3_piece 2 = .ok (.putfield 7, 3) := by decide +kernel
theorem dX3_piece_5 : decode cX3_piece 5 = .ok (.iload_n 1, 1) := by decide +kernel
theorem dX3_piece_6 : decode cX3_piece 6 = .ok (.ifCond .lt 12, 3) := by decide +kernel
theorem dX3_piece_9 : decode cX3_piece 9 = .ok (.iload_n 2, 1) := by decide +kernel
theorem dX3_piece_10 : decode cX3_piece 10 = .ok (.ifCond .lt 8, 3) := by decide +kernel
theorem dX3_piece_13 : decode cX3_piece 13 = .ok (.iload_n 2, 1) := by decide +kernel
theorem dX3_piece_14 : decode cX3_piece 14 = .ok (.iconst 2, 1) := by decide +kernel
theorem dX3_piece_15 : decode cX3_piece 15 = .ok (.if_icmp .le 5, 3) := by decide +kernel
theorem dX3_piece_18 : decode cX3_piece 18 = .ok (.iconst (-1), 1) := by decide +kernel
theorem dX3_piece_19 : decode cX3_piece 19 = .ok (.ireturn, 1) := by decide +kernel
theorem dX3_piece_20 : decode cX3_piece 20 = .ok (.iconst 0, 1) := by decide +kernel
theorem dX3_piece_21 : decode cX3_piece 21 = .ok (.istore_n 3, 1) := by decide +kernel
theorem dX3_piece_22 : decode cX3_piece 22 = .ok (.iconst 0, 1) := by decide +kernel
theorem dX3_piece_23 : decode cX3_piece 23 = .ok (.istore 4, 2) := by decide +kernel
theorem dX3_piece_25 : decode cX3_piece 25 = .ok (.iconst 0, 1) := by decide +kernel
theorem dX3_piece_26 : decode cX3_piece 26 = .ok (.istore 5, 2) := by decide +kernel
theorem dX3_piece_28 : decode cX3_piece 28 = .ok (.iload 5, 2) := by decide +kernel
theorem dX3_piece_30 : decode cX3_piece 30 = .ok (.iload_n 1, 1) := by decide +kernel
theorem dX3_piece_31 : decode cX3_piece 31 = .ok (.if_icmp .ge 33, 3) := by decide +kernel
theorem dX3_piece_34 : decode cX3_piece 34 = .ok (.iload_n 3, 1) := by decide +kernel
theorem dX3_piece_35 : decode cX3_piece 35 = .ok (.aload_n 0, 1) := by decide +kernel
theorem dX3_piece_36 : decode cX3_piece 36 = .ok (.getfield 29, 3) := by decide +kernel
theorem dX3_piece_39 : decode cX3_piece 39 = .ok (.if_icmp .ge 25, 3) := by decide +kernel
theorem dX3_piece_42 : decode cX3_piece 42 = .ok (.iload 4, 2) := by decide +kernel
theorem dX3_piece_44 : decode cX3_piece 44 = .ok (.aload_n 0, 1) := by decide +kernel
theorem dX3_piece_45 : decode cX3_piece 45 = .ok (.iload_n 3, 1) := by decide +kernel
theorem dX3_piece_46 : decode cX3_piece 46 = .ok (.invokevirtual 56, 3) := by decide +kernel
theorem dX3_piece_49 : decode cX3_piece 49 = .ok (.iadd, 1) := by decide +kernel
theorem dX3_piece_50 : decode cX3_piece 50 = .ok (.istore 4, 2) := by decide +kernel
theorem dX3_piece_52 : decode cX3_piece 52 = .ok (.aload_n 0, 1) := by decide +kernel
theorem dX3_piece_53 : decode cX3_piece 53 = .ok (.iload_n 3, 1) := by decide +kernel
theorem dX3_piece_54 : decode cX3_piece 54 = .ok (.invokevirtual 59, 3) := by decide +kernel
theorem dX3_piece_57 : decode cX3_piece 57 = .ok (.istore_n 3, 1) := by decide +kernel
theorem dX3_piece_58 : decode cX3_piece 58 = .ok (.iinc 5 1, 3) := by decide +kernel
theorem dX3_piece_61 : decode cX3_piece 61 = .ok (.goto (-33), 3) := by decide +kernel
theorem dX3_piece_64 : decode cX3_piece 64 = .ok (.iload_n 3, 1) := by decide +kernel
theorem dX3_piece_65 : decode cX3_piece 65 = .ok (.aload_n 0, 1) := by decide +kernel
theorem dX3_piece_66 : decode cX3_piece 66 = .ok (.getfield 29, 3) := by decide +kernel
theorem dX3_piece_69 : decode cX3_piece 69 = .ok (.if_icmp .lt 5, 3) := by decide +kernel
theorem dX3_piece_72 : decode cX3_piece 72 = .ok (.iconst (-1), 1) := by decide +kernel
theorem dX3_piece_73 : decode cX3_piece 73 = .ok (.ireturn, 1) := by decide +kernel
theorem dX3_piece_74 : decode cX3_piece 74 = .ok (.iload_n 2, 1) := by decide +kernel
theorem dX3_piece_75 : decode cX3_piece 75 = .ok (.ifCond .ne 12, 3) := by decide +kernel
theorem dX3_piece_78 : decode cX3_piece 78 = .ok (.aload_n 0, 1) := by decide +kernel
theorem dX3_piece_79 : decode cX3_piece 79 = .ok (.getfield 26, 3) := by decide +kernel
theorem dX3_piece_82 : decode cX3_piece 82 = .ok (.iload_n 3, 1) := by decide +kernel
theorem dX3_piece_83 : decode cX3_piece 83 = .ok (.iaload, 1) := by decide +kernel
theorem dX3_piece_84 : decode cX3_piece 84 = .ok (.goto 38, 3) := by decide +kernel
theorem dX3_piece_87 : decode cX3_piece 87 = .ok (.iload_n 2, 1) := by decide +kernel
theorem dX3_piece_88 : decode cX3_piece 88 = .ok (.iconst 2, 1) := by decide +kernel
theorem dX3_piece_89 : decode cX3_piece 89 = .ok (.if_icmp .ne 11, 3) := by decide +kernel
theorem dX3_piece_92 : decode cX3_piece 92 = .ok (.aload_n 0, 1) := by decide +kernel
theorem dX3_piece_93 : decode cX3_piece 93 = .ok (.iload_n 3, 1) := by decide +kernel
theorem dX3_piece_94 : decode cX3_piece 94 = .ok (.invokevirtual 56, 3) := by decide +kernel
theorem dX3_piece_97 : decode cX3_piece 97 = .ok (.goto 25, 3) := by decide +kernel
theorem dX3_piece_100 : decode cX3_piece 100 = .ok (.aload_n 0, 1) := by decide +kernel
theorem dX3_piece_101 : decode cX3_piece 101 = .ok (.getfield 26, 3) := by decide +kernel
theorem dX3_piece_104 : decode cX3_piece 104 = .ok (.iload_n 3, 1) := by decide +kernel
theorem dX3_piece_105 : decode cX3_piece 105 = .ok (.iaload, 1) := by decide +kernel
theorem dX3_piece_106 : decode cX3_piece 106 = .ok (.iconst 1, 1) := by decide +kernel
theorem dX3_piece_107 : decode cX3_piece 107 = .ok (.if_icmp .ne 13, 3) := by decide +kernel
theorem dX3_piece_110 : decode cX3_piece 110 = .ok (.aload_n 0, 1) := by decide +kernel
theorem dX3_piece_111 : decode cX3_piece 111 = .ok (.iload_n 3, 1) := by decide +kernel
theorem dX3_piece_112 : decode cX3_piece 112 = .ok (.iconst 1, 1) := by decide +kernel
theorem dX3_piece_113 : decode cX3_piece 113 = .ok (.iadd, 1) := by decide +kernel
theorem dX3_piece_114 : decode cX3_piece 114 = .ok (.invokevirtual 45, 3) := by decide +kernel
theorem dX3_piece_117 : decode cX3_piece 117 = .ok (.goto 5, 3) := by decide +kernel
theorem dX3_piece_120 : decode cX3_piece 120 = .ok (.iload 4, 2) := by decide +kernel
theorem dX3_piece_122 : decode cX3_piece 122 = .ok (.ireturn, 1) := by decide +kernel
theorem dX3_size_0 : decode cX3_size 0 = .ok (.aload_n 0, 1) := by decide +kernel
theorem dX3_size_1 : decode cX3_size 1 = .ok (.iconst 0, 1) := by decide +kernel
theorem dX3_size_2 : decode cX3_size 2 = .ok (.putfield 7, 3) := by decide +kernel
theorem dX3_size_5 : decode cX3_size 5 = .ok (.aload_n 0, 1) := by decide +kernel
theorem dX3_size_6 : decode cX3_size 6 = .ok (.getfield 29, 3) := by decide +kernel
theorem dX3_size_9 : decode cX3_size 9 = .ok (.ireturn, 1) := by decide +kernel
theorem dX3_way_0 : decode cX3_way 0 = .ok (.aload_n 0, 1) := by decide +kernel
theorem dX3_way_1 : decode cX3_way 1 = .ok (.iconst 0, 1) := by decide +kernel
theorem dX3_way_2 : decode cX3_way 2 = .ok (.putfield 7, 3) := by decide +kernel
theorem dX3_way_5 : decode cX3_way 5 = .ok (.iload_n 1, 1) := by decide +kernel
theorem dX3_way_6 : decode cX3_way 6 = .ok (.ifCond .lt 11, 3) := by decide +kernel
theorem dX3_way_9 : decode cX3_way 9 = .ok (.iload_n 1, 1) := by decide +kernel
theorem dX3_way_10 : decode cX3_way 10 = .ok (.aload_n 0, 1) := by decide +kernel
theorem dX3_way_11 : decode cX3_way 11 = .ok (.getfield 29, 3) := by decide +kernel
theorem dX3_way_14 : decode cX3_way 14 = .ok (.if_icmp .lt 7, 3) := by decide +kernel
theorem dX3_way_17 : decode cX3_way 17 = .ok (.iconst (-1), 1) := by decide +kernel
theorem dX3_way_18 : decode cX3_way 18 = .ok (.goto 9, 3) := by decide +kernel
theorem dX3_way_21 : decode cX3_way 21 = .ok (.aload_n 0, 1) := by decide +kernel
theorem dX3_way_22 : decode cX3_way 22 = .ok (.getfield 26, 3) := by decide +kernel
theorem dX3_way_25 : decode cX3_way 25 = .ok (.iload_n 1, 1) := by decide +kernel
theorem dX3_way_26 : decode cX3_way 26 = .ok (.iaload, 1) := by decide +kernel
theorem dX3_way_27 : decode cX3_way 27 = .ok (.ireturn, 1) := by decide +kernel
theorem dX3_go_0 : decode cX3_go 0 = .ok (.iconst 0, 1) := by decide +kernel
theorem dX3_go_1 : decode cX3_go 1 = .ok (.istore_n 1, 1) := by decide +kernel
theorem dX3_go_2 : decode cX3_go 2 = .ok (.aload_n 0, 1) := by decide +kernel
theorem dX3_go_3 : decode cX3_go 3 = .ok (.iconst 0, 1) := by decide +kernel
theorem dX3_go_4 : decode cX3_go 4 = .ok (.putfield 7, 3) := by decide +kernel
theorem dX3_go_7 : decode cX3_go 7 = .ok (.iconst 0, 1) := by decide +kernel
theorem dX3_go_8 : decode cX3_go 8 = .ok (.istore_n 2, 1) := by decide +kernel
theorem dX3_go_9 : decode cX3_go 9 = .ok (.iload_n 2, 1) := by decide +kernel
theorem dX3_go_10 : decode cX3_go 10 = .ok (.aload_n 0, 1) := by decide +kernel
theorem dX3_go_11 : decode cX3_go 11 = .ok (.getfield 29, 3) := by decide +kernel
theorem dX3_go_14 : decode cX3_go 14 = .ok (.if_icmp .ge 135, 3) := by decide +kernel
theorem dX3_go_17 : decode cX3_go 17 = .ok (.aload_n 0, 1) := by decide +kernel
theorem dX3_go_18 : decode cX3_go 18 = .ok (.getfield 7, 3) := by decide +kernel
theorem dX3_go_21 : decode cX3_go 21 = .ok (.ifCond .ne 128, 3) := by decide +kernel
theorem dX3_go_24 : decode cX3_go 24 = .ok (.iconst 0, 1) := by decide +kernel
theorem dX3_go_25 : decode cX3_go 25 = .ok (.istore_n 3, 1) := by decide +kernel
theorem dX3_go_26 : decode cX3_go 26 = .ok (.iload_n 3, 1) := by decide +kernel
theorem dX3_go_27 : decode cX3_go 27 = .ok (.aload_n 0, 1) := by decide +kernel
theorem dX3_go_28 : decode cX3_go 28 = .ok (.iload_n 2, 1) := by decide +kernel
theorem dX3_go_29 : decode cX3_go 29 = .ok (.invokevirtual 56, 3) := by decide +kernel
theorem dX3_go_32 : decode cX3_go 32 = .ok (.if_icmp .ge 108, 3) := by decide +kernel
theorem dX3_go_35 : decode cX3_go 35 = .ok (.aload_n 0, 1) := by decide +kernel
theorem dX3_go_36 : decode cX3_go 36 = .ok (.getfield 7, 3) := by decide +kernel
theorem dX3_go_39 : decode cX3_go 39 = .ok (.ifCond .ne 101, 3) := by decide +kernel
theorem dX3_go_42 : decode cX3_go 42 = .ok (.aload_n 0, 1) := by decide +kernel
theorem dX3_go_43 : decode cX3_go 43 = .ok (.getfield 26, 3) := by decide +kernel
theorem dX3_go_46 : decode cX3_go 46 = .ok (.iload_n 2, 1) := by decide +kernel
theorem dX3_go_47 : decode cX3_go 47 = .ok (.iaload, 1) := by decide +kernel
theorem dX3_go_48 : decode cX3_go 48 = .ok (.iconst 1, 1) := by decide +kernel
theorem dX3_go_49 : decode cX3_go 49 = .ok (.if_icmp .ne 15, 3) := by decide +kernel
theorem dX3_go_52 : decode cX3_go 52 = .ok (.aload_n 0, 1) := by decide +kernel
theorem dX3_go_53 : decode cX3_go 53 = .ok (.iload_n 2, 1) := by decide +kernel
theorem dX3_go_54 : decode cX3_go 54 = .ok (.iconst 1, 1) := by decide +kernel
theorem dX3_go_55 : decode cX3_go 55 = .ok (.iadd, 1) := by decide +kernel
theorem dX3_go_56 : decode cX3_go 56 = .ok (.invokevirtual 45, 3) := by decide +kernel
theorem dX3_go_59 : decode cX3_go 59 = .ok (.iload_n 3, 1) := by decide +kernel
theorem dX3_go_60 : decode cX3_go 60 = .ok (.iadd, 1) := by decide +kernel
theorem dX3_go_61 : decode cX3_go 61 = .ok (.goto 8, 3) := by decide +kernel
theorem dX3_go_64 : decode cX3_go 64 = .ok (.iload_n 2, 1) := by decide +kernel
theorem dX3_go_65 : decode cX3_go 65 = .ok (.iconst 3, 1) := by decide +kernel
theorem dX3_go_66 : decode cX3_go 66 = .ok (.iadd, 1) := by decide +kernel
theorem dX3_go_67 : decode cX3_go 67 = .ok (.iload_n 3, 1) := by decide +kernel
theorem dX3_go_68 : decode cX3_go 68 = .ok (.iadd, 1) := by decide +kernel
theorem dX3_go_69 : decode cX3_go 69 = .ok (.istore 4, 2) := by decide +kernel
theorem dX3_go_71 : decode cX3_go 71 = .ok (.aload_n 0, 1) := by decide +kernel
theorem dX3_go_72 : decode cX3_go 72 = .ok (.getfield 26, 3) := by decide +kernel
theorem dX3_go_75 : decode cX3_go 75 = .ok (.iload_n 2, 1) := by decide +kernel
theorem dX3_go_76 : decode cX3_go 76 = .ok (.iaload, 1) := by decide +kernel
theorem dX3_go_77 : decode cX3_go 77 = .ok (.iconst 1, 1) := by decide +kernel
theorem dX3_go_78 : decode cX3_go 78 = .ok (.if_icmp .ne 20, 3) := by decide +kernel
theorem dX3_go_81 : decode cX3_go 81 = .ok (.iload 4, 2) := by decide +kernel
theorem dX3_go_83 : decode cX3_go 83 = .ok (.aload_n 0, 1) := by decide +kernel
theorem dX3_go_84 : decode cX3_go 84 = .ok (.getfield 17, 3) := by decide +kernel
theorem dX3_go_87 : decode cX3_go 87 = .ok (.if_icmp .lt 11, 3) := by decide +kernel
theorem dX3_go_90 : decode cX3_go 90 = .ok (.aload_n 0, 1) := by decide +kernel
theorem dX3_go_91 : decode cX3_go 91 = .ok (.iconst 1, 1) := by decide +kernel
theorem dX3_go_92 : decode cX3_go 92 = .ok (.putfield 7, 3) := by decide +kernel
theorem dX3_go_95 : decode cX3_go 95 = .ok (.goto 39, 3) := by decide +kernel
theorem dX3_go_98 : decode cX3_go 98 = .ok (.aload_n 0, 1) := by decide +kernel
theorem dX3_go_99 : decode cX3_go 99 = .ok (.getfield 38, 3) := by decide +kernel
theorem dX3_go_102 : decode cX3_go 102 = .ok (.iload_n 1, 1) := by decide +kernel
theorem dX3_go_103 : decode cX3_go 103 = .ok (.aload_n 0, 1) := by decide +kernel
theorem dX3_go_104 : decode cX3_go 104 = .ok (.getfield 26, 3) := by decide +kernel
theorem dX3_go_107 : decode cX3_go 107 = .ok (.iload_n 2, 1) := by decide +kernel
theorem dX3_go_108 : decode cX3_go 108 = .ok (.iaload, 1) := by decide +kernel
theorem dX3_go_109 : decode cX3_go 109 = .ok (.iconst 1, 1) := by decide +kernel
theorem dX3_go_110 : decode cX3_go 110 = .ok (.if_icmp .ne 13, 3) := by decide +kernel
theorem dX3_go_113 : decode cX3_go 113 = .ok (.aload_n 0, 1) := by decide +kernel
theorem dX3_go_114 : decode cX3_go 114 = .ok (.getfield 13, 3) := by decide +kernel
theorem dX3_go_117 : decode cX3_go 117 = .ok (.iload 4, 2) := by decide +kernel
theorem dX3_go_119 : decode cX3_go 119 = .ok (.iaload, 1) := by decide +kernel
theorem dX3_go_120 : decode cX3_go 120 = .ok (.goto 10, 3) := by decide +kernel
theorem dX3_go_123 : decode cX3_go 123 = .ok (.aload_n 0, 1) := by decide +kernel
theorem dX3_go_124 : decode cX3_go 124 = .ok (.getfield 26, 3) := by decide +kernel
theorem dX3_go_127 : decode cX3_go 127 = .ok (.iload 4, 2) := by decide +kernel
theorem dX3_go_129 : decode cX3_go 129 = .ok (.iaload, 1) := by decide +kernel
theorem dX3_go_130 : decode cX3_go 130 = .ok (.iastore, 1) := by decide +kernel
theorem dX3_go_131 : decode cX3_go 131 = .ok (.iinc 1 1, 3) := by decide +kernel
theorem dX3_go_134 : decode cX3_go 134 = .ok (.iinc 3 1, 3) := by decide +kernel
theorem dX3_go_137 : decode cX3_go 137 = .ok (.goto (-111), 3) := by decide +kernel
theorem dX3_go_140 : decode cX3_go 140 = .ok (.aload_n 0, 1) := by decide +kernel
theorem dX3_go_141 : decode cX3_go 141 = .ok (.iload_n 2, 1) := by decide +kernel
theorem dX3_go_142 : decode cX3_go 142 = .ok (.invokevirtual 59, 3) := by decide +kernel
theorem dX3_go_145 : decode cX3_go 145 = .ok (.istore_n 2, 1) := by decide +kernel
theorem dX3_go_146 : decode cX3_go 146 = .ok (.goto (-137), 3) := by decide +kernel
theorem dX3_go_149 : decode cX3_go 149 = .ok (.aload_n 0, 1) := by decide +kernel
theorem dX3_go_150 : decode cX3_go 150 = .ok (.getfield 7, 3) := by decide +kernel
theorem dX3_go_153 : decode cX3_go 153 = .ok (.ifCond .eq 5, 3) := by decide +kernel
theorem dX3_go_156 : decode cX3_go 156 = .ok (.iconst 0, 1) := by decide +kernel
theorem dX3_go_157 : decode cX3_go 157 = .ok (.ireturn, 1) := by decide +kernel
theorem dX3_go_158 : decode cX3_go 158 = .ok (.iconst 0, 1) := by decide +kernel
theorem dX3_go_159 : decode cX3_go 159 = .ok (.istore_n 2, 1) := by decide +kernel
theorem dX3_go_160 : decode cX3_go 160 = .ok (.iload_n 2, 1) := by decide +kernel
theorem dX3_go_161 : decode cX3_go 161 = .ok (.iload_n 1, 1) := by decide +kernel
theorem dX3_go_162 : decode cX3_go 162 = .ok (.if_icmp .ge 21, 3) := by decide +kernel
theorem dX3_go_165 : decode cX3_go 165 = .ok (.aload_n 0, 1) := by decide +kernel
theorem dX3_go_166 : decode cX3_go 166 = .ok (.getfield 32, 3) := by decide +kernel
theorem dX3_go_169 : decode cX3_go 169 = .ok (.iload_n 2, 1) := by decide +kernel
theorem dX3_go_170 : decode cX3_go 170 = .ok (.aload_n 0, 1) := by decide +kernel
theorem dX3_go_171 : decode cX3_go 171 = .ok (.getfield 38, 3) := by decide +kernel
theorem dX3_go_174 : decode cX3_go 174 = .ok (.iload_n 2, 1) := by decide +kernel
theorem dX3_go_175 : decode cX3_go 175 = .ok (.iaload, 1) := by decide +kernel
theorem dX3_go_176 : decode cX3_go 176 = .ok (.iastore, 1) := by decide +kernel
theorem dX3_go_177 : decode cX3_go 177 = .ok (.iinc 2 1, 3) := by decide +kernel
theorem dX3_go_180 : decode cX3_go 180 = .ok (.goto (-20), 3) := by decide +kernel
theorem dX3_go_183 : decode cX3_go 183 = .ok (.aload_n 0, 1) := by decide +kernel
theorem dX3_go_184 : decode cX3_go 184 = .ok (.iload_n 1, 1) := by decide +kernel
theorem dX3_go_185 : decode cX3_go 185 = .ok (.putfield 35, 3) := by decide +kernel
theorem dX3_go_188 : decode cX3_go 188 = .ok (.iload_n 1, 1) := by decide +kernel
theorem dX3_go_189 : decode cX3_go 189 = .ok (.ireturn, 1) := by decide +kernel
theorem dX3_result_0 : decode cX3_result 0 = .ok (.aload_n 0, 1) := by decide +kernel
theorem dX3_result_1 : decode cX3_result 1 = .ok (.iconst 0, 1) := by decide +kernel
theorem dX3_result_2 : decode cX3_result 2 = .ok (.putfield 7, 3) := by decide +kernel
theorem dX3_result_5 : decode cX3_result 5 = .ok (.iload_n 1, 1) := by decide +kernel
theorem dX3_result_6 : decode cX3_result 6 = .ok (.ifCond .lt 11, 3) := by decide +kernel
theorem dX3_result_9 : decode cX3_result 9 = .ok (.iload_n 1, 1) := by decide +kernel
theorem dX3_result_10 : decode cX3_result 10 = .ok (.aload_n 0, 1) := by decide +kernel
theorem dX3_result_11 : decode cX3_result 11 = .ok (.getfield 35, 3) := by decide +kernel
theorem dX3_result_14 : decode cX3_result 14 = .ok (.if_icmp .lt 7, 3) := by decide +kernel
theorem dX3_result_17 : decode cX3_result 17 = .ok (.iconst (-1), 1) := by decide +kernel
theorem dX3_result_18 : decode cX3_result 18 = .ok (.goto 9, 3) := by decide +kernel
theorem dX3_result_21 : decode cX3_result 21 = .ok (.aload_n 0, 1) := by decide +kernel
theorem dX3_result_22 : decode cX3_result 22 = .ok (.getfield 32, 3) := by decide +kernel
theorem dX3_result_25 : decode cX3_result 25 = .ok (.iload_n 1, 1) := by decide +kernel
theorem dX3_result_26 : decode cX3_result 26 = .ok (.iaload, 1) := by decide +kernel
theorem dX3_result_27 : decode cX3_result 27 = .ok (.ireturn, 1) := by decide +kernel
theorem dX3_count_0 : decode cX3_count 0 = .ok (.aload_n 0, 1) := by decide +kernel
theorem dX3_count_1 : decode cX3_count 1 = .ok (.iconst 0, 1) := by decide +kernel
theorem dX3_count_2 : decode cX3_count 2 = .ok (.putfield 7, 3) := by decide +kernel
theorem dX3_count_5 : decode cX3_count 5 = .ok (.iload_n 1, 1) := by decide +kernel
theorem dX3_count_6 : decode cX3_count 6 = .ok (.ifCond .ne 10, 3) := by decide +kernel
theorem dX3_count_9 : decode cX3_count 9 = .ok (.aload_n 0, 1) := by decide +kernel
theorem dX3_count_10 : decode cX3_count 10 = .ok (.getfield 17, 3) := by decide +kernel
theorem dX3_count_13 : decode cX3_count 13 = .ok (.goto 28, 3) := by decide +kernel
theorem dX3_count_16 : decode cX3_count 16 = .ok (.iload_n 1, 1) := by decide +kernel
theorem dX3_count_17 : decode cX3_count 17 = .ok (.iconst 1, 1) := by decide +kernel
theorem dX3_count_18 : decode cX3_count 18 = .ok (.if_icmp .ne 10, 3) := by decide +kernel
theorem dX3_count_21 : decode cX3_count 21 = .ok (.aload_n 0, 1) := by decide +kernel
theorem dX3_count_22 : decode cX3_count 22 = .ok (.getfield 23, 3) := by decide +kernel
theorem dX3_count_25 : decode cX3_count 25 = .ok (.goto 16, 3) := by decide +kernel
theorem dX3_count_28 : decode cX3_count 28 = .ok (.iload_n 1, 1) := by decide +kernel
theorem dX3_count_29 : decode cX3_count 29 = .ok (.iconst 2, 1) := by decide +kernel
theorem dX3_count_30 : decode cX3_count 30 = .ok (.if_icmp .ne 10, 3) := by decide +kernel
theorem dX3_count_33 : decode cX3_count 33 = .ok (.aload_n 0, 1) := by decide +kernel
theorem dX3_count_34 : decode cX3_count 34 = .ok (.getfield 35, 3) := by decide +kernel
theorem dX3_count_37 : decode cX3_count 37 = .ok (.goto 4, 3) := by decide +kernel
theorem dX3_count_40 : decode cX3_count 40 = .ok (.iconst (-1), 1) := by decide +kernel
theorem dX3_count_41 : decode cX3_count 41 = .ok (.ireturn, 1) := by decide +kernel
abbrev vwCl : List vw_C := [(RX0, TX0, 2), (RX1, TX1, 4), (RX2, TX2, 6), (RX3, TX3, 10)]
/-- the links across the nest, at a state -/
def nx_N (U : State) : Prop := va_Nw (.methodLinkNest RX2 9 yX0_init "PieceWays") U ∧ va_Nw (.methodLinkNest RX2 24 yX1_init "PieceWays") U
theorem nx_S {u U : State} (h : u.vm = U.vm) (q : nx_N u) : nx_N U := ⟨va_Nw.same rfl h q.1, va_Nw.same rfl h q.2⟩
theorem nx_W {s U : State} (hW : s.WarmedH U.vm) (q : nx_N s) : nx_N U := ⟨va_Nw.warmM hW q.1, va_Nw.warmM hW q.2⟩
