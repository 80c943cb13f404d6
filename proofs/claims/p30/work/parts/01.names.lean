-- ===== PART A: goes FIRST, ahead of the names: the tables' words, and 'selects' of the private methods out of them =====
/-- a private method of a class that the tables say can be made, by its rows of tables_1 -/
def lw_okq (q : MethodName × Nat) : Prop := (q.1.cls ≠ "java/lang/invoke/MethodHandle" ∧ q.1.cls ≠ "java/lang/invoke/VarHandle") ∧ Cond.instantiable q.1.cls q.2 ∈ tables_1 ∧ Cond.privateMethod q.1 ∈ tables_1 ∧ Cond.instanceMethod q.1 ∈ tables_1
theorem lw_p0 : lw_okq (⟨"FlipBoard", "canShow", "(II)Z"⟩, 9) := ⟨⟨by decide +kernel, by decide +kernel⟩, List.mem_of_getElem? (i := 16) (by decide +kernel), List.mem_of_getElem? (i := 426) (by decide +kernel), List.mem_of_getElem? (i := 427) (by decide +kernel)⟩
theorem lw_p1 : lw_okq (⟨"FlipBoard$Flipper", "arrange", "(LFlipBoard$Dots;I)V"⟩, 1) := ⟨⟨by decide +kernel, by decide +kernel⟩, List.mem_of_getElem? (i := 179) (by decide +kernel), List.mem_of_getElem? (i := 549) (by decide +kernel), List.mem_of_getElem? (i := 550) (by decide +kernel)⟩
theorem lw_p2 : lw_okq (⟨"FlipBoard$Flipper", "arrangeByDueDots", "(LFlipBoard$Dots;)V"⟩, 1) := ⟨⟨by decide +kernel, by decide +kernel⟩, List.mem_of_getElem? (i := 179) (by decide +kernel), List.mem_of_getElem? (i := 553) (by decide +kernel), List.mem_of_getElem? (i := 554) (by decide +kernel)⟩
theorem lw_p3 : lw_okq (⟨"FlipBoard$Flipper", "flipColumn", "(LFlipBoard$State;II)I"⟩, 1) := ⟨⟨by decide +kernel, by decide +kernel⟩, List.mem_of_getElem? (i := 179) (by decide +kernel), List.mem_of_getElem? (i := 562) (by decide +kernel), List.mem_of_getElem? (i := 563) (by decide +kernel)⟩
def lw_privs_1 : List (MethodName × Nat) := [(⟨"FlipBoard", "canShow", "(II)Z"⟩, 9), (⟨"FlipBoard$Flipper", "arrange", "(LFlipBoard$Dots;I)V"⟩, 1), (⟨"FlipBoard$Flipper", "arrangeByDueDots", "(LFlipBoard$Dots;)V"⟩, 1), (⟨"FlipBoard$Flipper", "flipColumn", "(LFlipBoard$State;II)I"⟩, 1)]
theorem lw_r1 : ∀ q ∈ lw_privs_1, lw_okq q := List.forall_mem_cons.mpr ⟨lw_p0, List.forall_mem_cons.mpr ⟨lw_p1, List.forall_mem_cons.mpr ⟨lw_p2, List.forall_mem_cons.mpr ⟨lw_p3, fun _ h => absurd h List.not_mem_nil⟩⟩⟩⟩
def lw_privs : List (MethodName × Nat) := lw_privs_1
def lw_tbl : List Cond := k2_sels lw_privs ++ tables_1
theorem lw_privs_ok : ∀ q ∈ lw_privs, lw_okq q := lw_r1

def RX0 : String := "FlipBoard$Dots"
def TX0 : u_T := fun k => match k with
  | 0 => ("FlipBoard$Dots", "width", "I", false)
  | 1 => ("FlipBoard$Dots", "shown", "[I", true)
  | 2 => ("FlipBoard$Dots", "aim", "[I", true)
  | 3 => ("FlipBoard$Dots", "stuck", "[I", true)
  | 4 => ("FlipBoard$Dots", "known", "[I", true)
  | _ => ("FlipBoard$Dots", "flips", "[I", true)
def tyX0 : Nat → FieldType := fun k => match k with
  | 0 => .int
  | 1 => .array .int
  | 2 => .array .int
  | 3 => .array .int
  | 4 => .array .int
  | _ => .array .int
theorem nmX0 : ∀ a, a < 6 → ∀ b, b < 6 → a ≠ b → (TX0 a).2.1 ≠ (TX0 b).2.1 := by decide +kernel
theorem tyX0_ok : ∀ k, k < 6 → parseFieldDescriptor (TX0 k).2.2.1 = some (tyX0 k) := by decide +kernel
abbrev cX0_init : ByteArray := prog_2_method_1_code
def yX0_init : MethodName := ⟨RX0, "<init>", "()V"⟩
abbrev cX0_copyFrom : ByteArray := prog_2_method_2_code
def yX0_copyFrom : MethodName := ⟨RX0, "copyFrom", "(LFlipBoard$Dots;)V"⟩
abbrev cX0_renew : ByteArray := prog_2_method_3_code
def yX0_renew : MethodName := ⟨RX0, "renew", "(I)V"⟩
abbrev cX0_hasColumn : ByteArray := prog_2_method_4_code
def yX0_hasColumn : MethodName := ⟨RX0, "hasColumn", "(I)Z"⟩
abbrev cX0_hasDot : ByteArray := prog_2_method_5_code
def yX0_hasDot : MethodName := ⟨RX0, "hasDot", "(II)Z"⟩
abbrev cX0_aimAt : ByteArray := prog_2_method_6_code
def yX0_aimAt : MethodName := ⟨RX0, "aimAt", "([I)V"⟩
abbrev cX0_aimAtDark : ByteArray := prog_2_method_7_code
def yX0_aimAtDark : MethodName := ⟨RX0, "aimAtDark", "()V"⟩
abbrev cX0_dueBits : ByteArray := prog_2_method_8_code
def yX0_dueBits : MethodName := ⟨RX0, "dueBits", "(I)I"⟩
abbrev cX0_dueDots : ByteArray := prog_2_method_9_code
def yX0_dueDots : MethodName := ⟨RX0, "dueDots", "()I"⟩
abbrev cX0_differing : ByteArray := prog_2_method_10_code
def yX0_differing : MethodName := ⟨RX0, "differing", "([I[I)I"⟩
abbrev cX0_stuckDots : ByteArray := prog_2_method_11_code
def yX0_stuckDots : MethodName := ⟨RX0, "stuckDots", "()I"⟩
abbrev cX0_knownDots : ByteArray := prog_2_method_12_code
def yX0_knownDots : MethodName := ⟨RX0, "knownDots", "()I"⟩
abbrev cX0_dotsIn : ByteArray := prog_2_method_13_code
def yX0_dotsIn : MethodName := ⟨RX0, "dotsIn", "([I)I"⟩
abbrev cX0_otherDots : ByteArray := prog_2_method_14_code
def yX0_otherDots : MethodName := ⟨RX0, "otherDots", "()I"⟩
abbrev cX0_knownAgainst : ByteArray := prog_2_method_15_code
def yX0_knownAgainst : MethodName := ⟨RX0, "knownAgainst", "([I)I"⟩
abbrev cX0_isStuck : ByteArray := prog_2_method_16_code
def yX0_isStuck : MethodName := ⟨RX0, "isStuck", "(II)Z"⟩
abbrev cX0_stick : ByteArray := prog_2_method_17_code
def yX0_stick : MethodName := ⟨RX0, "stick", "(II)V"⟩
abbrev cX0_makeKnown : ByteArray := prog_2_method_18_code
def yX0_makeKnown : MethodName := ⟨RX0, "makeKnown", "(II)V"⟩
abbrev cX0_flip : ByteArray := prog_2_method_19_code
def yX0_flip : MethodName := ⟨RX0, "flip", "(II)V"⟩
abbrev cX0_flipsOf : ByteArray := prog_2_method_20_code
def yX0_flipsOf : MethodName := ⟨RX0, "flipsOf", "(II)I"⟩
abbrev cX0_renewDot : ByteArray := prog_2_method_21_code
def yX0_renewDot : MethodName := ⟨RX0, "renewDot", "(II)V"⟩
def RX1 : String := "FlipBoard$Flipper"
def TX1 : u_T := fun k => match k with
  | _ => ("FlipBoard$Flipper", "sequence", "[I", true)
def tyX1 : Nat → FieldType := fun k => match k with
  | _ => .array .int
theorem nmX1 : ∀ a, a < 1 → ∀ b, b < 1 → a ≠ b → (TX1 a).2.1 ≠ (TX1 b).2.1 := by decide +kernel
theorem tyX1_ok : ∀ k, k < 1 → parseFieldDescriptor (TX1 k).2.2.1 = some (tyX1 k) := by decide +kernel
abbrev cX1_init : ByteArray := prog_3_method_1_code
def yX1_init : MethodName := ⟨RX1, "<init>", "()V"⟩
abbrev cX1_passSecond : ByteArray := prog_3_method_2_code
def yX1_passSecond : MethodName := ⟨RX1, "passSecond", "(LFlipBoard$State;)V"⟩
abbrev cX1_flipColumn : ByteArray := prog_3_method_3_code
def yX1_flipColumn : MethodName := ⟨RX1, "flipColumn", "(LFlipBoard$State;II)I"⟩
abbrev cX1_arrange : ByteArray := prog_3_method_4_code
def yX1_arrange : MethodName := ⟨RX1, "arrange", "(LFlipBoard$Dots;I)V"⟩
abbrev cX1_arrangeByDueDots : ByteArray := prog_3_method_5_code
def yX1_arrangeByDueDots : MethodName := ⟨RX1, "arrangeByDueDots", "(LFlipBoard$Dots;)V"⟩
def RX2 : String := "FlipBoard$History"
def TX2 : u_T := fun k => match k with
  | 0 => ("FlipBoard$History", "states", "[LFlipBoard$State;", true)
  | 1 => ("FlipBoard$History", "first", "I", false)
  | _ => ("FlipBoard$History", "size", "I", false)
def tyX2 : Nat → FieldType := fun k => match k with
  | 0 => .array (.object "FlipBoard$State")
  | 1 => .int
  | _ => .int
theorem nmX2 : ∀ a, a < 3 → ∀ b, b < 3 → a ≠ b → (TX2 a).2.1 ≠ (TX2 b).2.1 := by decide +kernel
theorem tyX2_ok : ∀ k, k < 3 → parseFieldDescriptor (TX2 k).2.2.1 = some (tyX2 k) := by decide +kernel
abbrev cX2_init : ByteArray := prog_4_method_1_code
def yX2_init : MethodName := ⟨RX2, "<init>", "()V"⟩
abbrev cX2_keep : ByteArray := prog_4_method_2_code
def yX2_keep : MethodName := ⟨RX2, "keep", "(LFlipBoard$State;)V"⟩
abbrev cX2_stateAt : ByteArray := prog_4_method_4_code
def yX2_stateAt : MethodName := ⟨RX2, "stateAt", "(I)LFlipBoard$State;"⟩
def RX3 : String := "FlipBoard$Meter"
def TX3 : u_T := fun k => match k with
  | 0 => ("FlipBoard$Meter", "flips", "I", false)
  | 1 => ("FlipBoard$Meter", "tries", "I", false)
  | 2 => ("FlipBoard$Meter", "power", "I", false)
  | 3 => ("FlipBoard$Meter", "seconds", "I", false)
  | _ => ("FlipBoard$Meter", "recent", "[I", true)
def tyX3 : Nat → FieldType := fun k => match k with
  | 0 => .int
  | 1 => .int
  | 2 => .int
  | 3 => .int
  | _ => .array .int
theorem nmX3 : ∀ a, a < 5 → ∀ b, b < 5 → a ≠ b → (TX3 a).2.1 ≠ (TX3 b).2.1 := by decide +kernel
theorem tyX3_ok : ∀ k, k < 5 → parseFieldDescriptor (TX3 k).2.2.1 = some (tyX3 k) := by decide +kernel
abbrev cX3_init : ByteArray := prog_5_method_1_code
def yX3_init : MethodName := ⟨RX3, "<init>", "()V"⟩
abbrev cX3_copyFrom : ByteArray := prog_5_method_2_code
def yX3_copyFrom : MethodName := ⟨RX3, "copyFrom", "(LFlipBoard$Meter;)V"⟩
abbrev cX3_renew : ByteArray := prog_5_method_3_code
def yX3_renew : MethodName := ⟨RX3, "renew", "()V"⟩
abbrev cX3_addSecond : ByteArray := prog_5_method_4_code
def yX3_addSecond : MethodName := ⟨RX3, "addSecond", "(I)V"⟩
abbrev cX3_powerOf : ByteArray := prog_5_method_5_code
def yX3_powerOf : MethodName := ⟨RX3, "powerOf", "(I)I"⟩
def RX4 : String := "FlipBoard$Orders"
def TX4 : u_T := fun k => match k with
  | 0 => ("FlipBoard$Orders", "members", "[I", true)
  | 1 => ("FlipBoard$Orders", "pictures", "[[I", true)
  | 2 => ("FlipBoard$Orders", "steps", "[[I", true)
  | 3 => ("FlipBoard$Orders", "fewest", "[[I", true)
  | _ => ("FlipBoard$Orders", "size", "I", false)
def tyX4 : Nat → FieldType := fun k => match k with
  | 0 => .array .int
  | 1 => .array (.array .int)
  | 2 => .array (.array .int)
  | 3 => .array (.array .int)
  | _ => .int
theorem nmX4 : ∀ a, a < 5 → ∀ b, b < 5 → a ≠ b → (TX4 a).2.1 ≠ (TX4 b).2.1 := by decide +kernel
theorem tyX4_ok : ∀ k, k < 5 → parseFieldDescriptor (TX4 k).2.2.1 = some (tyX4 k) := by decide +kernel
abbrev cX4_init : ByteArray := prog_6_method_1_code
def yX4_init : MethodName := ⟨RX4, "<init>", "()V"⟩
def RX5 : String := "FlipBoard$Painter"
def TX5 : u_T := fun k => match k with
  | 0 => ("FlipBoard$Painter", "picture", "[I", true)
  | _ => ("FlipBoard$Painter", "otherPicture", "[I", true)
def tyX5 : Nat → FieldType := fun k => match k with
  | 0 => .array .int
  | _ => .array .int
theorem nmX5 : ∀ a, a < 2 → ∀ b, b < 2 → a ≠ b → (TX5 a).2.1 ≠ (TX5 b).2.1 := by decide +kernel
theorem tyX5_ok : ∀ k, k < 2 → parseFieldDescriptor (TX5 k).2.2.1 = some (tyX5 k) := by decide +kernel
abbrev cX5_init : ByteArray := prog_7_method_1_code
def yX5_init : MethodName := ⟨RX5, "<init>", "()V"⟩
abbrev cX5_draw : ByteArray := prog_7_method_2_code
def yX5_draw : MethodName := ⟨RX5, "draw", "(LFlipBoard$State;II[I)V"⟩
abbrev cX5_drawAs : ByteArray := prog_7_method_3_code
def yX5_drawAs : MethodName := ⟨RX5, "drawAs", "(LFlipBoard$State;II)V"⟩
abbrev cX5_bestShiftOf : ByteArray := prog_7_method_4_code
def yX5_bestShiftOf : MethodName := ⟨RX5, "bestShiftOf", "(LFlipBoard$State;I)I"⟩
def RX6 : String := "FlipBoard$Reader"
def TX6 : u_T := fun k => match k with
  | 0 => ("FlipBoard$Reader", "draft", "LFlipBoard$Script;", true)
  | 1 => ("FlipBoard$Reader", "items", "I", false)
  | 2 => ("FlipBoard$Reader", "expected", "I", false)
  | 3 => ("FlipBoard$Reader", "letter", "I", false)
  | _ => ("FlipBoard$Reader", "firstDigit", "I", false)
def tyX6 : Nat → FieldType := fun k => match k with
  | 0 => .object "FlipBoard$Script"
  | 1 => .int
  | 2 => .int
  | 3 => .int
  | _ => .int
theorem nmX6 : ∀ a, a < 5 → ∀ b, b < 5 → a ≠ b → (TX6 a).2.1 ≠ (TX6 b).2.1 := by decide +kernel
theorem tyX6_ok : ∀ k, k < 5 → parseFieldDescriptor (TX6 k).2.2.1 = some (tyX6 k) := by decide +kernel
abbrev cX6_init : ByteArray := prog_8_method_1_code
def yX6_init : MethodName := ⟨RX6, "<init>", "()V"⟩
def RX7 : String := "FlipBoard$Script"
def TX7 : u_T := fun k => match k with
  | 0 => ("FlipBoard$Script", "columns", "[I", true)
  | 1 => ("FlipBoard$Script", "widths", "[I", true)
  | 2 => ("FlipBoard$Script", "characters", "[I", true)
  | 3 => ("FlipBoard$Script", "lengths", "[I", true)
  | _ => ("FlipBoard$Script", "messages", "I", false)
def tyX7 : Nat → FieldType := fun k => match k with
  | 0 => .array .int
  | 1 => .array .int
  | 2 => .array .int
  | 3 => .array .int
  | _ => .int
theorem nmX7 : ∀ a, a < 5 → ∀ b, b < 5 → a ≠ b → (TX7 a).2.1 ≠ (TX7 b).2.1 := by decide +kernel
theorem tyX7_ok : ∀ k, k < 5 → parseFieldDescriptor (TX7 k).2.2.1 = some (tyX7 k) := by decide +kernel
abbrev cX7_init : ByteArray := prog_9_method_1_code
def yX7_init : MethodName := ⟨RX7, "<init>", "()V"⟩
abbrev cX7_copyFrom : ByteArray := prog_9_method_2_code
def yX7_copyFrom : MethodName := ⟨RX7, "copyFrom", "(LFlipBoard$Script;)V"⟩
abbrev cX7_widthOf : ByteArray := prog_9_method_3_code
def yX7_widthOf : MethodName := ⟨RX7, "widthOf", "(I)I"⟩
abbrev cX7_columnOf : ByteArray := prog_9_method_4_code
def yX7_columnOf : MethodName := ⟨RX7, "columnOf", "(II)I"⟩
abbrev cX7_putColumn : ByteArray := prog_9_method_5_code
def yX7_putColumn : MethodName := ⟨RX7, "putColumn", "(III)V"⟩
abbrev cX7_isLetter : ByteArray := prog_9_method_7_code
def yX7_isLetter : MethodName := ⟨RX7, "isLetter", "(I)Z"⟩
abbrev cX7_hasMessage : ByteArray := prog_9_method_8_code
def yX7_hasMessage : MethodName := ⟨RX7, "hasMessage", "(I)Z"⟩
abbrev cX7_lengthOf : ByteArray := prog_9_method_9_code
def yX7_lengthOf : MethodName := ⟨RX7, "lengthOf", "(I)I"⟩
abbrev cX7_characterOf : ByteArray := prog_9_method_10_code
def yX7_characterOf : MethodName := ⟨RX7, "characterOf", "(II)I"⟩
abbrev cX7_startMessage : ByteArray := prog_9_method_11_code
def yX7_startMessage : MethodName := ⟨RX7, "startMessage", "()V"⟩
abbrev cX7_addCharacter : ByteArray := prog_9_method_12_code
def yX7_addCharacter : MethodName := ⟨RX7, "addCharacter", "(I)V"⟩
abbrev cX7_dropMessage : ByteArray := prog_9_method_13_code
def yX7_dropMessage : MethodName := ⟨RX7, "dropMessage", "(I)V"⟩
abbrev cX7_stripColumns : ByteArray := prog_9_method_14_code
def yX7_stripColumns : MethodName := ⟨RX7, "stripColumns", "(I)I"⟩
abbrev cX7_stripBits : ByteArray := prog_9_method_15_code
def yX7_stripBits : MethodName := ⟨RX7, "stripBits", "(II)I"⟩
def RX8 : String := "FlipBoard$State"
def TX8 : u_T := fun k => match k with
  | 0 => ("FlipBoard$State", "dots", "LFlipBoard$Dots;", true)
  | 1 => ("FlipBoard$State", "meter", "LFlipBoard$Meter;", true)
  | 2 => ("FlipBoard$State", "script", "LFlipBoard$Script;", true)
  | _ => ("FlipBoard$State", "numbers", "[I", true)
def tyX8 : Nat → FieldType := fun k => match k with
  | 0 => .object "FlipBoard$Dots"
  | 1 => .object "FlipBoard$Meter"
  | 2 => .object "FlipBoard$Script"
  | _ => .array .int
theorem nmX8 : ∀ a, a < 4 → ∀ b, b < 4 → a ≠ b → (TX8 a).2.1 ≠ (TX8 b).2.1 := by decide +kernel
theorem tyX8_ok : ∀ k, k < 4 → parseFieldDescriptor (TX8 k).2.2.1 = some (tyX8 k) := by decide +kernel
abbrev cX8_init : ByteArray := prog_10_method_1_code
def yX8_init : MethodName := ⟨RX8, "<init>", "()V"⟩
abbrev cX8_copyFrom : ByteArray := prog_10_method_2_code
def yX8_copyFrom : MethodName := ⟨RX8, "copyFrom", "(LFlipBoard$State;)V"⟩
abbrev cX8_hasNumber : ByteArray := prog_10_method_3_code
def yX8_hasNumber : MethodName := ⟨RX8, "hasNumber", "(I)Z"⟩
abbrev cX8_tryDot : ByteArray := prog_10_method_4_code
def yX8_tryDot : MethodName := ⟨RX8, "tryDot", "(II)V"⟩
def RX9 : String := "FlipBoard"
def TX9 : u_T := fun k => match k with
  | 0 => ("FlipBoard", "now", "LFlipBoard$State;", true)
  | 1 => ("FlipBoard", "trial", "LFlipBoard$State;", true)
  | 2 => ("FlipBoard", "history", "LFlipBoard$History;", true)
  | 3 => ("FlipBoard", "painter", "LFlipBoard$Painter;", true)
  | 4 => ("FlipBoard", "flipper", "LFlipBoard$Flipper;", true)
  | 5 => ("FlipBoard", "reader", "LFlipBoard$Reader;", true)
  | 6 => ("FlipBoard", "orders", "LFlipBoard$Orders;", true)
  | 7 => ("FlipBoard", "text", "[I", true)
  | _ => ("FlipBoard", "textLength", "I", false)
def tyX9 : Nat → FieldType := fun k => match k with
  | 0 => .object "FlipBoard$State"
  | 1 => .object "FlipBoard$State"
  | 2 => .object "FlipBoard$History"
  | 3 => .object "FlipBoard$Painter"
  | 4 => .object "FlipBoard$Flipper"
  | 5 => .object "FlipBoard$Reader"
  | 6 => .object "FlipBoard$Orders"
  | 7 => .array .int
  | _ => .int
theorem nmX9 : ∀ a, a < 9 → ∀ b, b < 9 → a ≠ b → (TX9 a).2.1 ≠ (TX9 b).2.1 := by decide +kernel
theorem tyX9_ok : ∀ k, k < 9 → parseFieldDescriptor (TX9 k).2.2.1 = some (tyX9 k) := by decide +kernel
abbrev cX9_init : ByteArray := prog_1_method_1_code
def yX9_init : MethodName := ⟨RX9, "<init>", "()V"⟩
abbrev cX9_begin : ByteArray := prog_1_method_2_code
def yX9_begin : MethodName := ⟨RX9, "begin", "(I)I"⟩
abbrev cX9_setNumber : ByteArray := prog_1_method_3_code
def yX9_setNumber : MethodName := ⟨RX9, "setNumber", "(II)I"⟩
abbrev cX9_setColumn : ByteArray := prog_1_method_4_code
def yX9_setColumn : MethodName := ⟨RX9, "setColumn", "(III)I"⟩
abbrev cX9_addMessage : ByteArray := prog_1_method_5_code
def yX9_addMessage : MethodName := ⟨RX9, "addMessage", "(II)I"⟩
abbrev cX9_removeMessage : ByteArray := prog_1_method_6_code
def yX9_removeMessage : MethodName := ⟨RX9, "removeMessage", "(I)I"⟩
abbrev cX9_show : ByteArray := prog_1_method_10_code
def yX9_show : MethodName := ⟨RX9, "show", "(II)I"⟩
abbrev cX9_darken : ByteArray := prog_1_method_11_code
def yX9_darken : MethodName := ⟨RX9, "darken", "()I"⟩
abbrev cX9_jam : ByteArray := prog_1_method_12_code
def yX9_jam : MethodName := ⟨RX9, "jam", "(II)I"⟩
abbrev cX9_mend : ByteArray := prog_1_method_13_code
def yX9_mend : MethodName := ⟨RX9, "mend", "(II)I"⟩
abbrev cX9_pass : ByteArray := prog_1_method_14_code
def yX9_pass : MethodName := ⟨RX9, "pass", "(I)I"⟩
abbrev cX9_count : ByteArray := prog_1_method_15_code
def yX9_count : MethodName := ⟨RX9, "count", "(I)I"⟩
abbrev cX9_column : ByteArray := prog_1_method_16_code
def yX9_column : MethodName := ⟨RX9, "column", "(II)I"⟩
abbrev cX9_flips : ByteArray := prog_1_method_17_code
def yX9_flips : MethodName := ⟨RX9, "flips", "(II)I"⟩
abbrev cX9_letter : ByteArray := prog_1_method_18_code
def yX9_letter : MethodName := ⟨RX9, "letter", "(II)I"⟩
abbrev cX9_message : ByteArray := prog_1_method_19_code
def yX9_message : MethodName := ⟨RX9, "message", "(II)I"⟩
abbrev cX9_strip : ByteArray := prog_1_method_20_code
def yX9_strip : MethodName := ⟨RX9, "strip", "(I)I"⟩
abbrev cX9_power : ByteArray := prog_1_method_22_code
def yX9_power : MethodName := ⟨RX9, "power", "(I)I"⟩
abbrev cX9_canShow : ByteArray := prog_1_method_29_code
def yX9_canShow : MethodName := ⟨RX9, "canShow", "(II)Z"⟩
abbrev cX9_copy : ByteArray := prog_1_method_31_code
def yX9_copy : MethodName := ⟨RX9, "copy", "([I[I)V"⟩
def RX10 : String := "FlipBoardModel"
def TX10 : u_T := fun k => match k with
  | _ => ("", "", "", false)
def tyX10 : Nat → FieldType := fun k => match k with
  | _ => .int
theorem nmX10 : ∀ a, a < 0 → ∀ b, b < 0 → a ≠ b → (TX10 a).2.1 ≠ (TX10 b).2.1 := by decide +kernel
theorem tyX10_ok : ∀ k, k < 0 → parseFieldDescriptor (TX10 k).2.2.1 = some (tyX10 k) := by decide +kernel
def RJx8e188 : String := "java/lang/Cloneable"
def RJ6 : String := "java/lang/Integer"
abbrev cJ6_bitCount_0f7a4 : ByteArray := prog_14_method_49_code
def yJ6_bitCount_0f7a4 : MethodName := ⟨RJ6, "bitCount", "(I)I"⟩
def RJ9 : String := "java/lang/Math"
abbrev cJ9_floorMod_7cf53 : ByteArray := prog_15_method_50_code
def yJ9_floorMod_7cf53 : MethodName := ⟨RJ9, "floorMod", "(II)I"⟩
abbrev cJ9_max_7cf53 : ByteArray := prog_15_method_65_code
def yJ9_max_7cf53 : MethodName := ⟨RJ9, "max", "(II)I"⟩
abbrev cJ9_min_7cf53 : ByteArray := prog_15_method_69_code
def yJ9_min_7cf53 : MethodName := ⟨RJ9, "min", "(II)I"⟩
def RJ10 : String := "java/lang/System"
def RJ7 : String := "java/util/Arrays"
abbrev cJ7_fill_53178 : ByteArray := prog_17_method_103_code
def yJ7_fill_53178 : MethodName := ⟨RJ7, "fill", "([II)V"⟩
def RL : String := "FlipBoardLaw"
abbrev cL_cell : ByteArray := method_2_code
def yL_cell : MethodName := ⟨RL, "cell", "([II)I"⟩
abbrev cL_low : ByteArray := method_3_code
def yL_low : MethodName := ⟨RL, "low", "(II)I"⟩
abbrev cL_bits : ByteArray := method_4_code
def yL_bits : MethodName := ⟨RL, "bits", "(I)I"⟩
abbrev cL_strip : ByteArray := method_5_code
def yL_strip : MethodName := ⟨RL, "strip", "([I[II)I"⟩
abbrev cL_picture : ByteArray := method_6_code
def yL_picture : MethodName := ⟨RL, "picture", "([I[I[IIII)I"⟩
abbrev cL_due : ByteArray := method_7_code
def yL_due : MethodName := ⟨RL, "due", "([I[I)I"⟩
abbrev cL_goes : ByteArray := method_8_code
def yL_goes : MethodName := ⟨RL, "goes", "([I[I[JII)I"⟩
abbrev cL_second : ByteArray := method_9_code
def yL_second : MethodName := ⟨RL, "second", "([I[I[J)V"⟩
abbrev cL_wrong : ByteArray := method_10_code
def yL_wrong : MethodName := ⟨RL, "wrong", "([I[I[I[IIIZ)I"⟩
abbrev cL_best : ByteArray := method_11_code
def yL_best : MethodName := ⟨RL, "best", "([I[I[I[II)I"⟩
abbrev cL_acts : ByteArray := method_12_code
def yL_acts : MethodName := ⟨RL, "acts", "(LFlipBoard;[I[I[J[I[II)Z"⟩
abbrev cL_isSo : ByteArray := method_13_code
def yL_isSo : MethodName := ⟨RL, "isSo", "(LFlipBoard;[I[I[J[I[I)Z"⟩
abbrev cL_law : ByteArray := code
def yL_law : MethodName := ⟨RL, "law", "([I)Z"⟩
abbrev vwCl : List vw_C := [(RX0, TX0, 6), (RX1, TX1, 1), (RX2, TX2, 3), (RX3, TX3, 5), (RX4, TX4, 5), (RX5, TX5, 2), (RX6, TX6, 5), (RX7, TX7, 5), (RX8, TX8, 4), (RX9, TX9, 9)]
