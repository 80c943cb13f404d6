section
-- ===== PART A: goes FIRST, ahead of the names: the tables' words, and 'selects' of the private methods out of them =====
/-- a private method of a class that the tables say can be made, by its rows of tables_1 -/
def lw_okq (q : MethodName × Nat) : Prop := (q.1.cls ≠ "java/lang/invoke/MethodHandle" ∧ q.1.cls ≠ "java/lang/invoke/VarHandle") ∧ Cond.instantiable q.1.cls q.2 ∈ tables_1 ∧ Cond.privateMethod q.1 ∈ tables_1 ∧ Cond.instanceMethod q.1 ∈ tables_1
theorem lw_p0 : lw_okq (⟨"FlipBoard", "canShow", "(II)Z"⟩, 9) := ⟨⟨by decide +kernel, by decide +kernel⟩, List.mem_of_getElem? (i := 16) (by decide +kernel), List.mem_of_getElem? (i := 426) (by decide +kernel), List.mem_of_getElem? (i := 427) (by decide +kernel)⟩
theorem lw_p1 : lw_okq (⟨"FlipBoard$Flipper", "arrange", "(LFlipBoard$Dots;I)V"⟩, 1) := ⟨⟨by decide +kernel, by decide +kernel⟩, List.mem_of_getElem? (i := 179) (by decide +kernel), List.mem_of_getElem? (i := 549) (by decide +kernel), List.mem_of_getElem? (i := 550) (by decide +kernel)⟩
theorem lw_p2 : lw_okq (⟨"FlipBoard$Flipper", "arrangeByDueDots", "(LFlipBoard$Dots;)V"⟩, 1) := ⟨⟨by decide +kernel, by decide +kernel⟩, List.mem_of_getElem? (i := 179) (by decide +kernel), List.mem_of_getElem? (i := 553) (by decide +kernel), List.mem_of_getElem? (i := 554) (by decide +kernel)⟩
theorem lw_p3 : lw_okq (⟨"FlipBoard$Flipper", "flipColumn", "(LFlipBoard$State;II)I"⟩, 1) := ⟨⟨by decide +kernel, by decide +kernel⟩, List.mem_of_getElem? (i := 179) (by decide +kernel), List.mem_of_getElem? (i := 562) (by decide +kernel), List.mem_of_getElem? (i := 563) (by decide +kernel)⟩
def lw_privs_1 : List (MethodName × Nat) := [(⟨"FlipBoard", "canShow", "(II)Z"⟩, 9), (⟨"FlipBoard$Flipper", "arrange", "(LFlipBoard$Dots;I)V"⟩, 1), (⟨"FlipBoard$Flipper", "arrangeByDueDots", "(LFlipBoard$Dots;)V"⟩, 1), (⟨"FlipBoard$Flipper", "flipColumn", "(LFlipBoard$State;II)I"⟩, 1)]
theorem lw_r1 : ∀ q ∈ lw_privs_1, lw_okq q := List.forall_mem_cons.mpr ⟨lw_p0, List.forall_mem_cons.mpr ⟨lw_p1, List.forall_mem_cons.mpr ⟨lw_p2, List.forall_mem_cons.mpr ⟨lw_p3, fun _ h => absurd h List.not_mem_nil⟩⟩⟩⟩
def lw_privs : List (MethodName × Nat) := lw_privs_1
def lw_tbl : List Cond := k2_sels lw_privs ++ tables_1
theorem lw_privs_ok : ∀ q ∈ lw_privs, lw_okq q := lw_r1

def RX0 : String := "FlipBoard$Dots"
def TX0 : u_T := fun k => match k with
  | 0 => ("FlipBoard$Dots", "width", "I", false)
  | 1 => ("FlipBoard$Dots", "shown", "[I", true)
  | 2 => ("FlipBoard$Dots", "aim", "[I", true)
  | 3 => ("FlipBoard$Dots", "stuck", "[I", true)
  | 4 => ("FlipBoard$Dots", "known", "[I", true)
  | _ => ("FlipBoard$Dots", "flips", "[I", true)
def tyX0 : Nat → FieldType := fun k => match k with
  | 0 => .int
  | 1 => .array .int
  | 2 => .array .int
  | 3 => .array .int
  | 4 => .array .int
  | _ => .array .int
theorem nmX0 : ∀ a, a < 6 → ∀ b, b < 6 → a ≠ b → (TX0 a).2.1 ≠ (TX0 b).2.1 := by decide +kernel
theorem tyX0_ok : ∀ k, k < 6 → parseFieldDescriptor (TX0 k).2.2.1 = some (tyX0 k) := by decide +kernel
abbrev cX0_init : ByteArray := prog_2_method_1_code
def yX0_init : MethodName := ⟨RX0, "<init>", "()V"⟩
abbrev cX0_copyFrom : ByteArray := prog_2_method_2_code
def yX0_copyFrom : MethodName := ⟨RX0, "copyFrom", "(LFlipBoard$Dots;)V"⟩
abbrev cX0_renew : ByteArray := prog_2_method_3_code
def yX0_renew : MethodName := ⟨RX0, "renew", "(I)V"⟩
abbrev cX0_hasColumn : ByteArray := prog_2_method_4_code
def yX0_hasColumn : MethodName := ⟨RX0, "hasColumn", "(I)Z"⟩
abbrev cX0_hasDot : ByteArray := prog_2_method_5_code
def yX0_hasDot : MethodName := ⟨RX0, "hasDot", "(II)Z"⟩
abbrev cX0_aimAt : ByteArray := prog_2_method_6_code
def yX0_aimAt : MethodName := ⟨RX0, "aimAt", "([I)V"⟩
abbrev cX0_aimAtDark : ByteArray := prog_2_method_7_code
def yX0_aimAtDark : MethodName := ⟨RX0, "aimAtDark", "()V"⟩
abbrev cX0_dueBits : ByteArray := prog_2_method_8_code
def yX0_dueBits : MethodName := ⟨RX0, "dueBits", "(I)I"⟩
abbrev cX0_dueDots : ByteArray := prog_2_method_9_code
def yX0_dueDots : MethodName := ⟨RX0, "dueDots", "()I"⟩
abbrev cX0_differing : ByteArray := prog_2_method_10_code
def yX0_differing : MethodName := ⟨RX0, "differing", "([I[I)I"⟩
abbrev cX0_stuckDots : ByteArray := prog_2_method_11_code
def yX0_stuckDots : MethodName := ⟨RX0, "stuckDots", "()I"⟩
abbrev cX0_knownDots : ByteArray := prog_2_method_12_code
def yX0_knownDots : MethodName := ⟨RX0, "knownDots", "()I"⟩
abbrev cX0_dotsIn : ByteArray := prog_2_method_13_code
def yX0_dotsIn : MethodName := ⟨RX0, "dotsIn", "([I)I"⟩
abbrev cX0_otherDots : ByteArray := prog_2_method_14_code
def yX0_otherDots : MethodName := ⟨RX0, "otherDots", "()I"⟩
abbrev cX0_knownAgainst : ByteArray := prog_2_method_15_code
def yX0_knownAgainst : MethodName := ⟨RX0, "knownAgainst", "([I)I"⟩
abbrev cX0_isStuck : ByteArray := prog_2_method_16_code
def yX0_isStuck : MethodName := ⟨RX0, "isStuck", "(II)Z"⟩
abbrev cX0_stick : ByteArray := prog_2_method_17_code
def yX0_stick : MethodName := ⟨RX0, "stick", "(II)V"⟩
abbrev cX0_makeKnown : ByteArray := prog_2_method_18_code
def yX0_makeKnown : MethodName := ⟨RX0, "makeKnown", "(II)V"⟩
abbrev cX0_flip : ByteArray := prog_2_method_19_code
def yX0_flip : MethodName := ⟨RX0, "flip", "(II)V"⟩
abbrev cX0_flipsOf : ByteArray := prog_2_method_20_code
def yX0_flipsOf : MethodName := ⟨RX0, "flipsOf", "(II)I"⟩
abbrev cX0_renewDot : ByteArray := prog_2_method_21_code
def yX0_renewDot : MethodName := ⟨RX0, "renewDot", "(II)V"⟩
def RX1 : String := "FlipBoard$Flipper"
def TX1 : u_T := fun k => match k with
  | _ => ("FlipBoard$Flipper", "sequence", "[I", true)
def tyX1 : Nat → FieldType := fun k => match k with
  | _ => .array .int
theorem nmX1 : ∀ a, a < 1 → ∀ b, b < 1 → a ≠ b → (TX1 a).2.1 ≠ (TX1 b).2.1 := by decide +kernel
theorem tyX1_ok : ∀ k, k < 1 → parseFieldDescriptor (TX1 k).2.2.1 = some (tyX1 k) := by decide +kernel
abbrev cX1_init : ByteArray := prog_3_method_1_code
def yX1_init : MethodName := ⟨RX1, "<init>", "()V"⟩
abbrev cX1_passSecond : ByteArray := prog_3_method_2_code
def yX1_passSecond : MethodName := ⟨RX1, "passSecond", "(LFlipBoard$State;)V"⟩
abbrev cX1_flipColumn : ByteArray := prog_3_method_3_code
def yX1_flipColumn : MethodName := ⟨RX1, "flipColumn", "(LFlipBoard$State;II)I"⟩
abbrev cX1_arrange : ByteArray := prog_3_method_4_code
def yX1_arrange : MethodName := ⟨RX1, "arrange", "(LFlipBoard$Dots;I)V"⟩
abbrev cX1_arrangeByDueDots : ByteArray := prog_3_method_5_code
def yX1_arrangeByDueDots : MethodName := ⟨RX1, "arrangeByDueDots", "(LFlipBoard$Dots;)V"⟩
def RX2 : String := "FlipBoard$History"
def TX2 : u_T := fun k => match k with
  | 0 => ("FlipBoard$History", "states", "[LFlipBoard$State;", true)
  | 1 => ("FlipBoard$History", "first", "I", false)
  | _ => ("FlipBoard$History", "size", "I", false)
def tyX2 : Nat → FieldType := fun k => match k with
  | 0 => .array (.object "FlipBoard$State")
  | 1 => .int
  | _ => .int
theorem nmX2 : ∀ a, a < 3 → ∀ b, b < 3 → a ≠ b → (TX2 a).2.1 ≠ (TX2 b).2.1 := by decide +kernel
theorem tyX2_ok : ∀ k, k < 3 → parseFieldDescriptor (TX2 k).2.2.1 = some (tyX2 k) := by decide +kernel
abbrev cX2_init : ByteArray := prog_4_method_1_code
def yX2_init : MethodName := ⟨RX2, "<init>", "()V"⟩
abbrev cX2_keep : ByteArray := prog_4_method_2_code
def yX2_keep : MethodName := ⟨RX2, "keep", "(LFlipBoard$State;)V"⟩
abbrev cX2_stateAt : ByteArray := prog_4_method_4_code
def yX2_stateAt : MethodName := ⟨RX2, "stateAt", "(I)LFlipBoard$State;"⟩
def RX3 : String := "FlipBoard$Meter"
def TX3 : u_T := fun k => match k with
  | 0 => ("FlipBoard$Meter", "flips", "I", false)
  | 1 => ("FlipBoard$Meter", "tries", "I", false)
  | 2 => ("FlipBoard$Meter", "power", "I", false)
  | 3 => ("FlipBoard$Meter", "seconds", "I", false)
  | _ => ("FlipBoard$Meter", "recent", "[I", true)
def tyX3 : Nat → FieldType := fun k => match k with
  | 0 => .int
  | 1 => .int
  | 2 => .int
  | 3 => .int
  | _ => .array .int
theorem nmX3 : ∀ a, a < 5 → ∀ b, b < 5 → a ≠ b → (TX3 a).2.1 ≠ (TX3 b).2.1 := by decide +kernel
theorem tyX3_ok : ∀ k, k < 5 → parseFieldDescriptor (TX3 k).2.2.1 = some (tyX3 k) := by decide +kernel
abbrev cX3_init : ByteArray := prog_5_method_1_code
def yX3_init : MethodName := ⟨RX3, "<init>", "()V"⟩
abbrev cX3_copyFrom : ByteArray := prog_5_method_2_code
def yX3_copyFrom : MethodName := ⟨RX3, "copyFrom", "(LFlipBoard$Meter;)V"⟩
abbrev cX3_renew : ByteArray := prog_5_method_3_code
def yX3_renew : MethodName := ⟨RX3, "renew", "()V"⟩
abbrev cX3_addSecond : ByteArray := prog_5_method_4_code
def yX3_addSecond : MethodName := ⟨RX3, "addSecond", "(I)V"⟩
abbrev cX3_powerOf : ByteArray := prog_5_method_5_code
def yX3_powerOf : MethodName := ⟨RX3, "powerOf", "(I)I"⟩
def RX4 : String := "FlipBoard$Orders"
def TX4 : u_T := fun k => match k with
  | 0 => ("FlipBoard$Orders", "members", "[I", true)
  | 1 => ("FlipBoard$Orders", "pictures", "[[I", true)
  | 2 => ("FlipBoard$Orders", "steps", "[[I", true)
  | 3 => ("FlipBoard$Orders", "fewest", "[[I", true)
  | _ => ("FlipBoard$Orders", "size", "I", false)
def tyX4 : Nat → FieldType := fun k => match k with
  | 0 => .array .int
  | 1 => .array (.array .int)
  | 2 => .array (.array .int)
  | 3 => .array (.array .int)
  | _ => .int
theorem nmX4 : ∀ a, a < 5 → ∀ b, b < 5 → a ≠ b → (TX4 a).2.1 ≠ (TX4 b).2.1 := by decide +kernel
theorem tyX4_ok : ∀ k, k < 5 → parseFieldDescriptor (TX4 k).2.2.1 = some (tyX4 k) := by decide +kernel
abbrev cX4_init : ByteArray := prog_6_method_1_code
def yX4_init : MethodName := ⟨RX4, "<init>", "()V"⟩
def RX5 : String := "FlipBoard$Painter"
def TX5 : u_T := fun k => match k with
  | 0 => ("FlipBoard$Painter", "picture", "[I", true)
  | _ => ("FlipBoard$Painter", "otherPicture", "[I", true)
def tyX5 : Nat → FieldType := fun k => match k with
  | 0 => .array .int
  | _ => .array .int
theorem nmX5 : ∀ a, a < 2 → ∀ b, b < 2 → a ≠ b → (TX5 a).2.1 ≠ (TX5 b).2.1 := by decide +kernel
theorem tyX5_ok : ∀ k, k < 2 → parseFieldDescriptor (TX5 k).2.2.1 = some (tyX5 k) := by decide +kernel
abbrev cX5_init : ByteArray := prog_7_method_1_code
def yX5_init : MethodName := ⟨RX5, "<init>", "()V"⟩
abbrev cX5_draw : ByteArray := prog_7_method_2_code
def yX5_draw : MethodName := ⟨RX5, "draw", "(LFlipBoard$State;II[I)V"⟩
abbrev cX5_drawAs : ByteArray := prog_7_method_3_code
def yX5_drawAs : MethodName := ⟨RX5, "drawAs", "(LFlipBoard$State;II)V"⟩
abbrev cX5_bestShiftOf : ByteArray := prog_7_method_4_code
def yX5_bestShiftOf : MethodName := ⟨RX5, "bestShiftOf", "(LFlipBoard$State;I)I"⟩
def RX6 : String := "FlipBoard$Reader"
def TX6 : u_T := fun k => match k with
  | 0 => ("FlipBoard$Reader", "draft", "LFlipBoard$Script;", true)
  | 1 => ("FlipBoard$Reader", "items", "I", false)
  | 2 => ("FlipBoard$Reader", "expected", "I", false)
  | 3 => ("FlipBoard$Reader", "letter", "I", false)
  | _ => ("FlipBoard$Reader", "firstDigit", "I", false)
def tyX6 : Nat → FieldType := fun k => match k with
  | 0 => .object "FlipBoard$Script"
  | 1 => .int
  | 2 => .int
  | 3 => .int
  | _ => .int
theorem nmX6 : ∀ a, a < 5 → ∀ b, b < 5 → a ≠ b → (TX6 a).2.1 ≠ (TX6 b).2.1 := by decide +kernel
theorem tyX6_ok : ∀ k, k < 5 → parseFieldDescriptor (TX6 k).2.2.1 = some (tyX6 k) := by decide +kernel
abbrev cX6_init : ByteArray := prog_8_method_1_code
def yX6_init : MethodName := ⟨RX6, "<init>", "()V"⟩
def RX7 : String := "FlipBoard$Script"
def TX7 : u_T := fun k => match k with
  | 0 => ("FlipBoard$Script", "columns", "[I", true)
  | 1 => ("FlipBoard$Script", "widths", "[I", true)
  | 2 => ("FlipBoard$Script", "characters", "[I", true)
  | 3 => ("FlipBoard$Script", "lengths", "[I", true)
  | _ => ("FlipBoard$Script", "messages", "I", false)
def tyX7 : Nat → FieldType := fun k => match k with
  | 0 => .array .int
  | 1 => .array .int
  | 2 => .array .int
  | 3 => .array .int
  | _ => .int
theorem nmX7 : ∀ a, a < 5 → ∀ b, b < 5 → a ≠ b → (TX7 a).2.1 ≠ (TX7 b).2.1 := by decide +kernel
theorem tyX7_ok : ∀ k, k < 5 → parseFieldDescriptor (TX7 k).2.2.1 = some (tyX7 k) := by decide +kernel
abbrev cX7_init : ByteArray := prog_9_method_1_code
def yX7_init : MethodName := ⟨RX7, "<init>", "()V"⟩
abbrev cX7_copyFrom : ByteArray := prog_9_method_2_code
def yX7_copyFrom : MethodName := ⟨RX7, "copyFrom", "(LFlipBoard$Script;)V"⟩
abbrev cX7_widthOf : ByteArray := prog_9_method_3_code
def yX7_widthOf : MethodName := ⟨RX7, "widthOf", "(I)I"⟩
abbrev cX7_columnOf : ByteArray := prog_9_method_4_code
def yX7_columnOf : MethodName := ⟨RX7, "columnOf", "(II)I"⟩
abbrev cX7_putColumn : ByteArray := prog_9_method_5_code
def yX7_putColumn : MethodName := ⟨RX7, "putColumn", "(III)V"⟩
abbrev cX7_isLetter : ByteArray := prog_9_method_7_code
def yX7_isLetter : MethodName := ⟨RX7, "isLetter", "(I)Z"⟩
abbrev cX7_hasMessage : ByteArray := prog_9_method_8_code
def yX7_hasMessage : MethodName := ⟨RX7, "hasMessage", "(I)Z"⟩
abbrev cX7_lengthOf : ByteArray := prog_9_method_9_code
def yX7_lengthOf : MethodName := ⟨RX7, "lengthOf", "(I)I"⟩
abbrev cX7_characterOf : ByteArray := prog_9_method_10_code
def yX7_characterOf : MethodName := ⟨RX7, "characterOf", "(II)I"⟩
abbrev cX7_startMessage : ByteArray := prog_9_method_11_code
def yX7_startMessage : MethodName := ⟨RX7, "startMessage", "()V"⟩
abbrev cX7_addCharacter : ByteArray := prog_9_method_12_code
def yX7_addCharacter : MethodName := ⟨RX7, "addCharacter", "(I)V"⟩
abbrev cX7_dropMessage : ByteArray := prog_9_method_13_code
def yX7_dropMessage : MethodName := ⟨RX7, "dropMessage", "(I)V"⟩
abbrev cX7_stripColumns : ByteArray := prog_9_method_14_code
def yX7_stripColumns : MethodName := ⟨RX7, "stripColumns", "(I)I"⟩
abbrev cX7_stripBits : ByteArray := prog_9_method_15_code
def yX7_stripBits : MethodName := ⟨RX7, "stripBits", "(II)I"⟩
def RX8 : String := "FlipBoard$State"
def TX8 : u_T := fun k => match k with
  | 0 => ("FlipBoard$State", "dots", "LFlipBoard$Dots;", true)
  | 1 => ("FlipBoard$State", "meter", "LFlipBoard$Meter;", true)
  | 2 => ("FlipBoard$State", "script", "LFlipBoard$Script;", true)
  | _ => ("FlipBoard$State", "numbers", "[I", true)
def tyX8 : Nat → FieldType := fun k => match k with
  | 0 => .object "FlipBoard$Dots"
  | 1 => .object "FlipBoard$Meter"
  | 2 => .object "FlipBoard$Script"
  | _ => .array .int
theorem nmX8 : ∀ a, a < 4 → ∀ b, b < 4 → a ≠ b → (TX8 a).2.1 ≠ (TX8 b).2.1 := by decide +kernel
theorem tyX8_ok : ∀ k, k < 4 → parseFieldDescriptor (TX8 k).2.2.1 = some (tyX8 k) := by decide +kernel
abbrev cX8_init : ByteArray := prog_10_method_1_code
def yX8_init : MethodName := ⟨RX8, "<init>", "()V"⟩
abbrev cX8_copyFrom : ByteArray := prog_10_method_2_code
def yX8_copyFrom : MethodName := ⟨RX8, "copyFrom", "(LFlipBoard$State;)V"⟩
abbrev cX8_hasNumber : ByteArray := prog_10_method_3_code
def yX8_hasNumber : MethodName := ⟨RX8, "hasNumber", "(I)Z"⟩
abbrev cX8_tryDot : ByteArray := prog_10_method_4_code
def yX8_tryDot : MethodName := ⟨RX8, "tryDot", "(II)V"⟩
def RX9 : String := "FlipBoard"
def TX9 : u_T := fun k => match k with
  | 0 => ("FlipBoard", "now", "LFlipBoard$State;", true)
  | 1 => ("FlipBoard", "trial", "LFlipBoard$State;", true)
  | 2 => ("FlipBoard", "history", "LFlipBoard$History;", true)
  | 3 => ("FlipBoard", "painter", "LFlipBoard$Painter;", true)
  | 4 => ("FlipBoard", "flipper", "LFlipBoard$Flipper;", true)
  | 5 => ("FlipBoard", "reader", "LFlipBoard$Reader;", true)
  | 6 => ("FlipBoard", "orders", "LFlipBoard$Orders;", true)
  | 7 => ("FlipBoard", "text", "[I", true)
  | _ => ("FlipBoard", "textLength", "I", false)
def tyX9 : Nat → FieldType := fun k => match k with
  | 0 => .object "FlipBoard$State"
  | 1 => .object "FlipBoard$State"
  | 2 => .object "FlipBoard$History"
  | 3 => .object "FlipBoard$Painter"
  | 4 => .object "FlipBoard$Flipper"
  | 5 => .object "FlipBoard$Reader"
  | 6 => .object "FlipBoard$Orders"
  | 7 => .array .int
  | _ => .int
theorem nmX9 : ∀ a, a < 9 → ∀ b, b < 9 → a ≠ b → (TX9 a).2.1 ≠ (TX9 b).2.1 := by decide +kernel
theorem tyX9_ok : ∀ k, k < 9 → parseFieldDescriptor (TX9 k).2.2.1 = some (tyX9 k) := by decide +kernel
abbrev cX9_init : ByteArray := prog_1_method_1_code
def yX9_init : MethodName := ⟨RX9, "<init>", "()V"⟩
abbrev cX9_begin : ByteArray := prog_1_method_2_code
def yX9_begin : MethodName := ⟨RX9, "begin", "(I)I"⟩
abbrev cX9_setNumber : ByteArray := prog_1_method_3_code
def yX9_setNumber : MethodName := ⟨RX9, "setNumber", "(II)I"⟩
abbrev cX9_setColumn : ByteArray := prog_1_method_4_code
def yX9_setColumn : MethodName := ⟨RX9, "setColumn", "(III)I"⟩
abbrev cX9_addMessage : ByteArray := prog_1_method_5_code
def yX9_addMessage : MethodName := ⟨RX9, "addMessage", "(II)I"⟩
abbrev cX9_removeMessage : ByteArray := prog_1_method_6_code
def yX9_removeMessage : MethodName := ⟨RX9, "removeMessage", "(I)I"⟩
abbrev cX9_show : ByteArray := prog_1_method_10_code
def yX9_show : MethodName := ⟨RX9, "show", "(II)I"⟩
abbrev cX9_darken : ByteArray := prog_1_method_11_code
def yX9_darken : MethodName := ⟨RX9, "darken", "()I"⟩
abbrev cX9_jam : ByteArray := prog_1_method_12_code
def yX9_jam : MethodName := ⟨RX9, "jam", "(II)I"⟩
abbrev cX9_mend : ByteArray := prog_1_method_13_code
def yX9_mend : MethodName := ⟨RX9, "mend", "(II)I"⟩
abbrev cX9_pass : ByteArray := prog_1_method_14_code
def yX9_pass : MethodName := ⟨RX9, "pass", "(I)I"⟩
abbrev cX9_count : ByteArray := prog_1_method_15_code
def yX9_count : MethodName := ⟨RX9, "count", "(I)I"⟩
abbrev cX9_column : ByteArray := prog_1_method_16_code
def yX9_column : MethodName := ⟨RX9, "column", "(II)I"⟩
abbrev cX9_flips : ByteArray := prog_1_method_17_code
def yX9_flips : MethodName := ⟨RX9, "flips", "(II)I"⟩
abbrev cX9_letter : ByteArray := prog_1_method_18_code
def yX9_letter : MethodName := ⟨RX9, "letter", "(II)I"⟩
abbrev cX9_message : ByteArray := prog_1_method_19_code
def yX9_message : MethodName := ⟨RX9, "message", "(II)I"⟩
abbrev cX9_strip : ByteArray := prog_1_method_20_code
def yX9_strip : MethodName := ⟨RX9, "strip", "(I)I"⟩
abbrev cX9_power : ByteArray := prog_1_method_22_code
def yX9_power : MethodName := ⟨RX9, "power", "(I)I"⟩
abbrev cX9_canShow : ByteArray := prog_1_method_29_code
def yX9_canShow : MethodName := ⟨RX9, "canShow", "(II)Z"⟩
abbrev cX9_copy : ByteArray := prog_1_method_31_code
def yX9_copy : MethodName := ⟨RX9, "copy", "([I[I)V"⟩
def RX10 : String := "FlipBoardModel"
def TX10 : u_T := fun k => match k with
  | _ => ("", "", "", false)
def tyX10 : Nat → FieldType := fun k => match k with
  | _ => .int
theorem nmX10 : ∀ a, a < 0 → ∀ b, b < 0 → a ≠ b → (TX10 a).2.1 ≠ (TX10 b).2.1 := by decide +kernel
theorem tyX10_ok : ∀ k, k < 0 → parseFieldDescriptor (TX10 k).2.2.1 = some (tyX10 k) := by decide +kernel
def RJx8e188 : String := "java/lang/Cloneable"
def RJ6 : String := "java/lang/Integer"
abbrev cJ6_bitCount_0f7a4 : ByteArray := prog_14_method_49_code
def yJ6_bitCount_0f7a4 : MethodName := ⟨RJ6, "bitCount", "(I)I"⟩
def RJ9 : String := "java/lang/Math"
abbrev cJ9_floorMod_7cf53 : ByteArray := prog_15_method_50_code
def yJ9_floorMod_7cf53 : MethodName := ⟨RJ9, "floorMod", "(II)I"⟩
abbrev cJ9_max_7cf53 : ByteArray := prog_15_method_65_code
def yJ9_max_7cf53 : MethodName := ⟨RJ9, "max", "(II)I"⟩
abbrev cJ9_min_7cf53 : ByteArray := prog_15_method_69_code
def yJ9_min_7cf53 : MethodName := ⟨RJ9, "min", "(II)I"⟩
def RJ10 : String := "java/lang/System"
def RJ7 : String := "java/util/Arrays"
abbrev cJ7_fill_53178 : ByteArray := prog_17_method_103_code
def yJ7_fill_53178 : MethodName := ⟨RJ7, "fill", "([II)V"⟩
def RL : String := "FlipBoardLaw"
abbrev cL_cell : ByteArray := method_2_code
def yL_cell : MethodName := ⟨RL, "cell", "([II)I"⟩
abbrev cL_low : ByteArray := method_3_code
def yL_low : MethodName := ⟨RL, "low", "(II)I"⟩
abbrev cL_bits : ByteArray := method_4_code
def yL_bits : MethodName := ⟨RL, "bits", "(I)I"⟩
abbrev cL_strip : ByteArray := method_5_code
def yL_strip : MethodName := ⟨RL, "strip", "([I[II)I"⟩
abbrev cL_picture : ByteArray := method_6_code
def yL_picture : MethodName := ⟨RL, "picture", "([I[I[IIII)I"⟩
abbrev cL_due : ByteArray := method_7_code
def yL_due : MethodName := ⟨RL, "due", "([I[I)I"⟩
abbrev cL_goes : ByteArray := method_8_code
def yL_goes : MethodName := ⟨RL, "goes", "([I[I[JII)I"⟩
abbrev cL_second : ByteArray := method_9_code
def yL_second : MethodName := ⟨RL, "second", "([I[I[J)V"⟩
abbrev cL_wrong : ByteArray := method_10_code
def yL_wrong : MethodName := ⟨RL, "wrong", "([I[I[I[IIIZ)I"⟩
abbrev cL_best : ByteArray := method_11_code
def yL_best : MethodName := ⟨RL, "best", "([I[I[I[II)I"⟩
abbrev cL_acts : ByteArray := method_12_code
def yL_acts : MethodName := ⟨RL, "acts", "(LFlipBoard;[I[I[J[I[II)Z"⟩
abbrev cL_isSo : ByteArray := method_13_code
def yL_isSo : MethodName := ⟨RL, "isSo", "(LFlipBoard;[I[I[J[I[I)Z"⟩
abbrev cL_law : ByteArray := code
def yL_law : MethodName := ⟨RL, "law", "([I)Z"⟩
abbrev vwCl : List vw_C := [(RX0, TX0, 6), (RX1, TX1, 1), (RX2, TX2, 3), (RX3, TX3, 5), (RX4, TX4, 5), (RX5, TX5, 2), (RX6, TX6, 5), (RX7, TX7, 5), (RX8, TX8, 4), (RX9, TX9, 9)]
end
section
theorem dX0_init_0 : decode cX0_init 0 = .ok (.aload_n 0, 1) := by decide +kernel
theorem dX0_init_1 : decode cX0_init 1 = .ok (.invokespecial 3, 3) := by decide +kernel
theorem dX0_init_4 : decode cX0_init 4 = .ok (.aload_n 0, 1) := by decide +kernel
theorem dX0_init_5 : decode cX0_init 5 = .ok (.bipush 20, 2) := by decide +kernel
theorem dX0_init_7 : decode cX0_init 7 = .ok (.putfield 9, 3) := by decide +kernel
theorem dX0_init_10 : decode cX0_init 10 = .ok (.aload_n 0, 1) := by decide +kernel
theorem dX0_init_11 : decode cX0_init 11 = .ok (.bipush 40, 2) := by decide +kernel
theorem dX0_init_13 : decode cX0_init 13 = .ok (.newarray .int, 2) := by decide +kernel
theorem dX0_init_15 : decode cX0_init 15 = .ok (.putfield 15, 3) := by decide +kernel
theorem dX0_init_18 : decode cX0_init 18 = .ok (.aload_n 0, 1) := by decide +kernel
theorem dX0_init_19 : decode cX0_init 19 = .ok (.bipush 40, 2) := by decide +kernel
theorem dX0_init_21 : decode cX0_init 21 = .ok (.newarray .int, 2) := by decide +kernel
theorem dX0_init_23 : decode cX0_init 23 = .ok (.putfield 19, 3) := by decide +kernel
theorem dX0_init_26 : decode cX0_init 26 = .ok (.aload_n 0, 1) := by decide +kernel
theorem dX0_init_27 : decode cX0_init 27 = .ok (.bipush 40, 2) := by decide +kernel
theorem dX0_init_29 : decode cX0_init 29 = .ok (.newarray .int, 2) := by decide +kernel
theorem dX0_init_31 : decode cX0_init 31 = .ok (.putfield 22, 3) := by decide +kernel
theorem dX0_init_34 : decode cX0_init 34 = .ok (.aload_n 0, 1) := by decide +kernel
theorem dX0_init_35 : decode cX0_init 35 = .ok (.bipush 40, 2) := by decide +kernel
theorem dX0_init_37 : decode cX0_init 37 = .ok (.newarray .int, 2) := by decide +kernel
theorem dX0_init_39 : decode cX0_init 39 = .ok (.putfield 25, 3) := by decide +kernel
theorem dX0_init_42 : decode cX0_init 42 = .ok (.aload_n 0, 1) := by decide +kernel
theorem dX0_init_43 : decode cX0_init 43 = .ok (.sipush 280, 3) := by decide +kernel
theorem dX0_init_46 : decode cX0_init 46 = .ok (.newarray .int, 2) := by decide +kernel
theorem dX0_init_48 : decode cX0_init 48 = .ok (.putfield 28, 3) := by decide +kernel
theorem dX0_init_51 : decode cX0_init 51 = .ok (.return_, 1) := by decide +kernel
theorem dX0_copyFrom_0 : decode cX0_copyFrom 0 = .ok (.aload_n 0, 1) := by decide +kernel
theorem dX0_copyFrom_1 : decode cX0_copyFrom 1 = .ok (.aload_n 1, 1) := by decide +kernel
theorem dX0_copyFrom_2 : decode cX0_copyFrom 2 = .ok (.getfield 9, 3) := by decide +kernel
theorem dX0_copyFrom_5 : decode cX0_copyFrom 5 = .ok (.putfield 9, 3) := by decide +kernel
theorem dX0_copyFrom_8 : decode cX0_copyFrom 8 = .ok (.aload_n 1, 1) := by decide +kernel
theorem dX0_copyFrom_9 : decode cX0_copyFrom 9 = .ok (.getfield 15, 3) := by decide +kernel
theorem dX0_copyFrom_12 : decode cX0_copyFrom 12 = .ok (.aload_n 0, 1) := by decide +kernel
theorem dX0_copyFrom_13 : decode cX0_copyFrom 13 = .ok (.getfield 15, 3) := by decide +kernel
theorem dX0_copyFrom_16 : decode cX0_copyFrom 16 = .ok (.invokestatic 31, 3) := by decide +kernel
theorem dX0_copyFrom_19 : decode cX0_copyFrom 19 = .ok (.aload_n 1, 1) := by decide +kernel
theorem dX0_copyFrom_20 : decode cX0_copyFrom 20 = .ok (.getfield 19, 3) := by decide +kernel
theorem dX0_copyFrom_23 : decode cX0_copyFrom 23 = .ok (.aload_n 0, 1) := by decide +kernel
theorem dX0_copyFrom_24 : decode cX0_copyFrom 24 = .ok (.getfield 19, 3) := by decide +kernel
theorem dX0_copyFrom_27 : decode cX0_copyFrom 27 = .ok (.invokestatic 31, 3) := by decide +kernel
theorem dX0_copyFrom_30 : decode cX0_copyFrom 30 = .ok (.aload_n 1, 1) := by decide +kernel
theorem dX0_copyFrom_31 : decode cX0_copyFrom 31 = .ok (.getfield 22, 3) := by decide +kernel
theorem dX0_copyFrom_34 : decode cX0_copyFrom 34 = .ok (.aload_n 0, 1) := by decide +kernel
theorem dX0_copyFrom_35 : decode cX0_copyFrom 35 = .ok (.getfield 22, 3) := by decide +kernel
theorem dX0_copyFrom_38 : decode cX0_copyFrom 38 = .ok (.invokestatic 31, 3) := by decide +kernel
theorem dX0_copyFrom_41 : decode cX0_copyFrom 41 = .ok (.aload_n 1, 1) := by decide +kernel
theorem dX0_copyFrom_42 : decode cX0_copyFrom 42 = .ok (.getfield 25, 3) := by decide +kernel
theorem dX0_copyFrom_45 : decode cX0_copyFrom 45 = .ok (.aload_n 0, 1) := by decide +kernel
theorem dX0_copyFrom_46 : decode cX0_copyFrom 46 = .ok (.getfield 25, 3) := by decide +kernel
theorem dX0_copyFrom_49 : decode cX0_copyFrom 49 = .ok (.invokestatic 31, 3) := by decide +kernel
theorem dX0_copyFrom_52 : decode cX0_copyFrom 52 = .ok (.aload_n 1, 1) := by decide +kernel
theorem dX0_copyFrom_53 : decode cX0_copyFrom 53 = .ok (.getfield 28, 3) := by decide +kernel
theorem dX0_copyFrom_56 : decode cX0_copyFrom 56 = .ok (.aload_n 0, 1) := by decide +kernel
theorem dX0_copyFrom_57 : decode cX0_copyFrom 57 = .ok (.getfield 28, 3) := by decide +kernel
theorem dX0_copyFrom_60 : decode cX0_copyFrom 60 = .ok (.invokestatic 31, 3) := by decide +kernel
theorem dX0_copyFrom_63 : decode cX0_copyFrom 63 = .ok (.return_, 1) := by decide +kernel
theorem dX0_renew_0 : decode cX0_renew 0 = .ok (.aload_n 0, 1) := by decide +kernel
theorem dX0_renew_1 : decode cX0_renew 1 = .ok (.iload_n 1, 1) := by decide +kernel
theorem dX0_renew_2 : decode cX0_renew 2 = .ok (.putfield 9, 3) := by decide +kernel
theorem dX0_renew_5 : decode cX0_renew 5 = .ok (.aload_n 0, 1) := by decide +kernel
theorem dX0_renew_6 : decode cX0_renew 6 = .ok (.getfield 15, 3) := by decide +kernel
theorem dX0_renew_9 : decode cX0_renew 9 = .ok (.iconst 0, 1) := by decide +kernel
theorem dX0_renew_10 : decode cX0_renew 10 = .ok (.invokestatic 35, 3) := by decide +kernel
theorem dX0_renew_13 : decode cX0_renew 13 = .ok (.aload_n 0, 1) := by decide +kernel
theorem dX0_renew_14 : decode cX0_renew 14 = .ok (.getfield 19, 3) := by decide +kernel
theorem dX0_renew_17 : decode cX0_renew 17 = .ok (.iconst 0, 1) := by decide +kernel
theorem dX0_renew_18 : decode cX0_renew 18 = .ok (.invokestatic 35, 3) := by decide +kernel
theorem dX0_renew_21 : decode cX0_renew 21 = .ok (.aload_n 0, 1) := by decide +kernel
theorem dX0_renew_22 : decode cX0_renew 22 = .ok (.getfield 22, 3) := by decide +kernel
theorem dX0_renew_25 : decode cX0_renew 25 = .ok (.iconst 0, 1) := by decide +kernel
theorem dX0_renew_26 : decode cX0_renew 26 = .ok (.invokestatic 35, 3) := by decide +kernel
theorem dX0_renew_29 : decode cX0_renew 29 = .ok (.aload_n 0, 1) := by decide +kernel
theorem dX0_renew_30 : decode cX0_renew 30 = .ok (.getfield 25, 3) := by decide +kernel
theorem dX0_renew_33 : decode cX0_renew 33 = .ok (.iconst 0, 1) := by decide +kernel
theorem dX0_renew_34 : decode cX0_renew 34 = .ok (.invokestatic 35, 3) := by decide +kernel
theorem dX0_renew_37 : decode cX0_renew 37 = .ok (.aload_n 0, 1) := by decide +kernel
theorem dX0_renew_38 : decode cX0_renew 38 = .ok (.getfield 28, 3) := by decide +kernel
theorem dX0_renew_41 : decode cX0_renew 41 = .ok (.iconst 0, 1) := by decide +kernel
theorem dX0_renew_42 : decode cX0_renew 42 = .ok (.invokestatic 35, 3) := by decide +kernel
theorem dX0_renew_45 : decode cX0_renew 45 = .ok (.return_, 1) := by decide +kernel
theorem dX0_hasColumn_0 : decode cX0_hasColumn 0 = .ok (.iload_n 1, 1) := by decide +kernel
theorem dX0_hasColumn_1 : decode cX0_hasColumn 1 = .ok (.ifCond .lt 21, 3) := by decide +kernel
theorem dX0_hasColumn_4 : decode cX0_hasColumn 4 = .ok (.iload_n 1, 1) := by decide +kernel
theorem dX0_hasColumn_5 : decode cX0_hasColumn 5 = .ok (.aload_n 0, 1) := by decide +kernel
theorem dX0_hasColumn_6 : decode cX0_hasColumn 6 = .ok (.getfield 9, 3) := by decide +kernel
theorem dX0_hasColumn_9 : decode cX0_hasColumn 9 = .ok (.if_icmp .ge 13, 3) := by decide +kernel
theorem dX0_hasColumn_12 : decode cX0_hasColumn 12 = .ok (.iload_n 1, 1) := by decide +kernel
theorem dX0_hasColumn_13 : decode cX0_hasColumn 13 = .ok (.bipush 40, 2) := by decide +kernel
theorem dX0_hasColumn_15 : decode cX0_hasColumn 15 = .ok (.if_icmp .ge 7, 3) := by decide +kernel
theorem dX0_hasColumn_18 : decode cX0_hasColumn 18 = .ok (.iconst 1, 1) := by decide +kernel
theorem dX0_hasColumn_19 : decode cX0_hasColumn 19 = .ok (.goto 4, 3) := by decide +kernel
theorem dX0_hasColumn_22 : decode cX0_hasColumn 22 = .ok (.iconst 0, 1) := by decide +kernel
theorem dX0_hasColumn_23 : decode cX0_hasColumn 23 = .ok (.ireturn, 1) := by decide +kernel
theorem dX0_hasDot_0 : decode cX0_hasDot 0 = .ok (.aload_n 0, 1) := by decide +kernel
theorem dX0_hasDot_1 : decode cX0_hasDot 1 = .ok (.iload_n 1, 1) := by decide +kernel
theorem dX0_hasDot_2 : decode cX0_hasDot 2 = .ok (.invokevirtual 41, 3) := by decide +kernel
theorem dX0_hasDot_5 : decode cX0_hasDot 5 = .ok (.ifCond .eq 17, 3) := by decide +kernel
theorem dX0_hasDot_8 : decode cX0_hasDot 8 = .ok (.iload_n 2, 1) := by decide +kernel
theorem dX0_hasDot_9 : decode cX0_hasDot 9 = .ok (.ifCond .lt 13, 3) := by decide +kernel
theorem dX0_hasDot_12 : decode cX0_hasDot 12 = .ok (.iload_n 2, 1) := by decide +kernel
theorem dX0_hasDot_13 : decode cX0_hasDot 13 = .ok (.bipush 7, 2) := by decide +kernel
theorem dX0_hasDot_15 : decode cX0_hasDot 15 = .ok (.if_icmp .ge 7, 3) := by decide +kernel
theorem dX0_hasDot_18 : decode cX0_hasDot 18 = .ok (.iconst 1, 1) := by decide +kernel
theorem dX0_hasDot_19 : decode cX0_hasDot 19 = .ok (.goto 4, 3) := by decide +kernel
theorem dX0_hasDot_22 : decode cX0_hasDot 22 = .ok (.iconst 0, 1) := by decide +kernel
theorem dX0_hasDot_23 : decode cX0_hasDot 23 = .ok (.ireturn, 1) := by decide +kernel
theorem dX0_aimAt_0 : decode cX0_aimAt 0 = .ok (.aload_n 1, 1) := by decide +kernel
theorem dX0_aimAt_1 : decode cX0_aimAt 1 = .ok (.aload_n 0, 1) := by decide +kernel
theorem dX0_aimAt_2 : decode cX0_aimAt 2 = .ok (.getfield 19, 3) := by decide +kernel
theorem dX0_aimAt_5 : decode cX0_aimAt 5 = .ok (.invokestatic 31, 3) := by decide +kernel
theorem dX0_aimAt_8 : decode cX0_aimAt 8 = .ok (.return_, 1) := by decide +kernel
theorem dX0_aimAtDark_0 : decode cX0_aimAtDark 0 = .ok (.aload_n 0, 1) := by decide +kernel
theorem dX0_aimAtDark_1 : decode cX0_aimAtDark 1 = .ok (.getfield 19, 3) := by decide +kernel
theorem dX0_aimAtDark_4 : decode cX0_aimAtDark 4 = .ok (.iconst 0, 1) := by decide +kernel
theorem dX0_aimAtDark_5 : decode cX0_aimAtDark 5 = .ok (.invokestatic 35, 3) := by decide +kernel
theorem dX0_aimAtDark_8 : decode cX0_aimAtDark 8 = .ok (.return_, 1) := by decide +kernel
theorem dX0_dueBits_0 : decode cX0_dueBits 0 = .ok (.aload_n 0, 1) := by decide +kernel
theorem dX0_dueBits_1 : decode cX0_dueBits 1 = .ok (.iload_n 1, 1) := by decide +kernel
theorem dX0_dueBits_2 : decode cX0_dueBits 2 = .ok (.invokevirtual 41, 3) := by decide +kernel
theorem dX0_dueBits_5 : decode cX0_dueBits 5 = .ok (.ifCond .eq 28, 3) := by decide +kernel
theorem dX0_dueBits_8 : decode cX0_dueBits 8 = .ok (.aload_n 0, 1) := by decide +kernel
theorem dX0_dueBits_9 : decode cX0_dueBits 9 = .ok (.getfield 19, 3) := by decide +kernel
theorem dX0_dueBits_12 : decode cX0_dueBits 12 = .ok (.iload_n 1, 1) := by decide +kernel
theorem dX0_dueBits_13 : decode cX0_dueBits 13 = .ok (.iaload, 1) := by decide +kernel
theorem dX0_dueBits_14 : decode cX0_dueBits 14 = .ok (.aload_n 0, 1) := by decide +kernel
theorem dX0_dueBits_15 : decode cX0_dueBits 15 = .ok (.getfield 15, 3) := by decide +kernel
theorem dX0_dueBits_18 : decode cX0_dueBits 18 = .ok (.iload_n 1, 1) := by decide +kernel
theorem dX0_dueBits_19 : decode cX0_dueBits 19 = .ok (.iaload, 1) := by decide +kernel
theorem dX0_dueBits_20 : decode cX0_dueBits 20 = .ok (.ixor, 1) := by decide +kernel
theorem dX0_dueBits_21 : decode cX0_dueBits 21 = .ok (.aload_n 0, 1) := by decide +kernel
theorem dX0_dueBits_22 : decode cX0_dueBits 22 = .ok (.getfield 25, 3) := by decide +kernel
theorem dX0_dueBits_25 : decode cX0_dueBits 25 = .ok (.iload_n 1, 1) := by decide +kernel
theorem dX0_dueBits_26 : decode cX0_dueBits 26 = .ok (.iaload, 1) := by decide +kernel
theorem dX0_dueBits_27 : decode cX0_dueBits 27 = .ok (.iconst (-1), 1) := by decide +kernel
theorem dX0_dueBits_28 : decode cX0_dueBits 28 = .ok (.ixor, 1) := by decide +kernel
theorem dX0_dueBits_29 : decode cX0_dueBits 29 = .ok (.iand, 1) := by decide +kernel
theorem dX0_dueBits_30 : decode cX0_dueBits 30 = .ok (.goto 4, 3) := by decide +kernel
theorem dX0_dueBits_33 : decode cX0_dueBits 33 = .ok (.iconst 0, 1) := by decide +kernel
theorem dX0_dueBits_34 : decode cX0_dueBits 34 = .ok (.ireturn, 1) := by decide +kernel
theorem dX0_dueDots_0 : decode cX0_dueDots 0 = .ok (.aload_n 0, 1) := by decide +kernel
theorem dX0_dueDots_1 : decode cX0_dueDots 1 = .ok (.aload_n 0, 1) := by decide +kernel
theorem dX0_dueDots_2 : decode cX0_dueDots 2 = .ok (.getfield 19, 3) := by decide +kernel
theorem dX0_dueDots_5 : decode cX0_dueDots 5 = .ok (.aload_n 0, 1) := by decide +kernel
theorem dX0_dueDots_6 : decode cX0_dueDots 6 = .ok (.getfield 15, 3) := by decide +kernel
theorem dX0_dueDots_9 : decode cX0_dueDots 9 = .ok (.invokevirtual 45, 3) := by decide +kernel
theorem dX0_dueDots_12 : decode cX0_dueDots 12 = .ok (.ireturn, 1) := by decide +kernel
theorem dX0_differing_0 : decode cX0_differing 0 = .ok (.iconst 0, 1) := by decide +kernel
theorem dX0_differing_1 : decode cX0_differing 1 = .ok (.istore_n 3, 1) := by decide +kernel
theorem dX0_differing_2 : decode cX0_differing 2 = .ok (.iconst 0, 1) := by decide +kernel
theorem dX0_differing_3 : decode cX0_differing 3 = .ok (.istore 4, 2) := by decide +kernel
theorem dX0_differing_5 : decode cX0_differing 5 = .ok (.iload 4, 2) := by decide +kernel
theorem dX0_differing_7 : decode cX0_differing 7 = .ok (.bipush 40, 2) := by decide +kernel
theorem dX0_differing_9 : decode cX0_differing 9 = .ok (.if_icmp .ge 52, 3) := by decide +kernel
theorem dX0_differing_12 : decode cX0_differing 12 = .ok (.iload 4, 2) := by decide +kernel
theorem dX0_differing_14 : decode cX0_differing 14 = .ok (.aload_n 1, 1) := by decide +kernel
theorem dX0_differing_15 : decode cX0_differing 15 = .ok (.arraylength, 1) := by decide +kernel
theorem dX0_differing_16 : decode cX0_differing 16 = .ok (.if_icmp .ge 39, 3) := by decide +kernel
theorem dX0_differing_19 : decode cX0_differing 19 = .ok (.iload 4, 2) := by decide +kernel
theorem dX0_differing_21 : decode cX0_differing 21 = .ok (.aload_n 2, 1) := by decide +kernel
theorem dX0_differing_22 : decode cX0_differing 22 = .ok (.arraylength, 1) := by decide +kernel
theorem dX0_differing_23 : decode cX0_differing 23 = .ok (.if_icmp .ge 32, 3) := by decide +kernel
theorem dX0_differing_26 : decode cX0_differing 26 = .ok (.aload_n 1, 1) := by decide +kernel
theorem dX0_differing_27 : decode cX0_differing 27 = .ok (.iload 4, 2) := by decide +kernel
theorem dX0_differing_29 : decode cX0_differing 29 = .ok (.iaload, 1) := by decide +kernel
theorem dX0_differing_30 : decode cX0_differing 30 = .ok (.aload_n 2, 1) := by decide +kernel
theorem dX0_differing_31 : decode cX0_differing 31 = .ok (.iload 4, 2) := by decide +kernel
theorem dX0_differing_33 : decode cX0_differing 33 = .ok (.iaload, 1) := by decide +kernel
theorem dX0_differing_34 : decode cX0_differing 34 = .ok (.ixor, 1) := by decide +kernel
theorem dX0_differing_35 : decode cX0_differing 35 = .ok (.istore 5, 2) := by decide +kernel
theorem dX0_differing_37 : decode cX0_differing 37 = .ok (.iload_n 3, 1) := by decide +kernel
theorem dX0_differing_38 : decode cX0_differing 38 = .ok (.iload 5, 2) := by decide +kernel
theorem dX0_differing_40 : decode cX0_differing 40 = .ok (.aload_n 0, 1) := by decide +kernel
theorem dX0_differing_41 : decode cX0_differing 41 = .ok (.getfield 25, 3) := by decide +kernel
theorem dX0_differing_44 : decode cX0_differing 44 = .ok (.iload 4, 2) := by decide +kernel
theorem dX0_differing_46 : decode cX0_differing 46 = .ok (.iaload, 1) := by decide +kernel
theorem dX0_differing_47 : decode cX0_differing 47 = .ok (.iconst (-1), 1) := by decide +kernel
theorem dX0_differing_48 : decode cX0_differing 48 = .ok (.ixor, 1) := by decide +kernel
theorem dX0_differing_49 : decode cX0_differing 49 = .ok (.iand, 1) := by decide +kernel
theorem dX0_differing_50 : decode cX0_differing 50 = .ok (.invokestatic 49, 3) := by decide +kernel
theorem dX0_differing_53 : decode cX0_differing 53 = .ok (.iadd, 1) := by decide +kernel
theorem dX0_differing_54 : decode cX0_differing 54 = .ok (.istore_n 3, 1) := by decide +kernel
theorem dX0_differing_55 : decode cX0_differing 55 = .ok (.iinc 4 1, 3) := by decide +kernel
theorem dX0_differing_58 : decode cX0_differing 58 = .ok (.goto (-53), 3) := by decide +kernel
theorem dX0_differing_61 : decode cX0_differing 61 = .ok (.iload_n 3, 1) := by decide +kernel
theorem dX0_differing_62 : decode cX0_differing 62 = .ok (.ireturn, 1) := by decide +kernel
theorem dX0_stuckDots_0 : decode cX0_stuckDots 0 = .ok (.aload_n 0, 1) := by decide +kernel
theorem dX0_stuckDots_1 : decode cX0_stuckDots 1 = .ok (.getfield 22, 3) := by decide +kernel
theorem dX0_stuckDots_4 : decode cX0_stuckDots 4 = .ok (.invokestatic 55, 3) := by decide +kernel
theorem dX0_stuckDots_7 : decode cX0_stuckDots 7 = .ok (.ireturn, 1) := by decide +kernel
theorem dX0_knownDots_0 : decode cX0_knownDots 0 = .ok (.aload_n 0, 1) := by decide +kernel
theorem dX0_knownDots_1 : decode cX0_knownDots 1 = .ok (.getfield 25, 3) := by decide +kernel
theorem dX0_knownDots_4 : decode cX0_knownDots 4 = .ok (.invokestatic 55, 3) := by decide +kernel
theorem dX0_knownDots_7 : decode cX0_knownDots 7 = .ok (.ireturn, 1) := by decide +kernel
theorem dX0_dotsIn_0 : decode cX0_dotsIn 0 = .ok (.iconst 0, 1) := by decide +kernel
theorem dX0_dotsIn_1 : decode cX0_dotsIn 1 = .ok (.istore_n 1, 1) := by decide +kernel
theorem dX0_dotsIn_2 : decode cX0_dotsIn 2 = .ok (.iconst 0, 1) := by decide +kernel
theorem dX0_dotsIn_3 : decode cX0_dotsIn 3 = .ok (.istore_n 2, 1) := by decide +kernel
theorem dX0_dotsIn_4 : decode cX0_dotsIn 4 = .ok (.iload_n 2, 1) := by decide +kernel
theorem dX0_dotsIn_5 : decode cX0_dotsIn 5 = .ok (.aload_n 0, 1) := by decide +kernel
theorem dX0_dotsIn_6 : decode cX0_dotsIn 6 = .ok (.arraylength, 1) := by decide +kernel
theorem dX0_dotsIn_7 : decode cX0_dotsIn 7 = .ok (.if_icmp .ge 18, 3) := by decide +kernel
theorem dX0_dotsIn_10 : decode cX0_dotsIn 10 = .ok (.iload_n 1, 1) := by decide +kernel
theorem dX0_dotsIn_11 : decode cX0_dotsIn 11 = .ok (.aload_n 0, 1) := by decide +kernel
theorem dX0_dotsIn_12 : decode cX0_dotsIn 12 = .ok (.iload_n 2, 1) := by decide +kernel
theorem dX0_dotsIn_13 : decode cX0_dotsIn 13 = .ok (.iaload, 1) := by decide +kernel
theorem dX0_dotsIn_14 : decode cX0_dotsIn 14 = .ok (.invokestatic 49, 3) := by decide +kernel
theorem dX0_dotsIn_17 : decode cX0_dotsIn 17 = .ok (.iadd, 1) := by decide +kernel
theorem dX0_dotsIn_18 : decode cX0_dotsIn 18 = .ok (.istore_n 1, 1) := by decide +kernel
theorem dX0_dotsIn_19 : decode cX0_dotsIn 19 = .ok (.iinc 2 1, 3) := by decide +kernel
theorem dX0_dotsIn_22 : decode cX0_dotsIn 22 = .ok (.goto (-18), 3) := by decide +kernel
theorem dX0_dotsIn_25 : decode cX0_dotsIn 25 = .ok (.iload_n 1, 1) := by decide +kernel
theorem dX0_dotsIn_26 : decode cX0_dotsIn 26 = .ok (.ireturn, 1) := by decide +kernel
theorem dX0_otherDots_0 : decode cX0_otherDots 0 = .ok (.iconst 0, 1) := by decide +kernel
theorem dX0_otherDots_1 : decode cX0_otherDots 1 = .ok (.istore_n 1, 1) := by decide +kernel
theorem dX0_otherDots_2 : decode cX0_otherDots 2 = .ok (.iconst 0, 1) := by decide +kernel
theorem dX0_otherDots_3 : decode cX0_otherDots 3 = .ok (.istore_n 2, 1) := by decide +kernel
theorem dX0_otherDots_4 : decode cX0_otherDots 4 = .ok (.iload_n 2, 1) := by decide +kernel
theorem dX0_otherDots_5 : decode cX0_otherDots 5 = .ok (.bipush 40, 2) := by decide +kernel
theorem dX0_otherDots_7 : decode cX0_otherDots 7 = .ok (.if_icmp .ge 28, 3) := by decide +kernel
theorem dX0_otherDots_10 : decode cX0_otherDots 10 = .ok (.iload_n 1, 1) := by decide +kernel
theorem dX0_otherDots_11 : decode cX0_otherDots 11 = .ok (.aload_n 0, 1) := by decide +kernel
theorem dX0_otherDots_12 : decode cX0_otherDots 12 = .ok (.getfield 19, 3) := by decide +kernel
theorem dX0_otherDots_15 : decode cX0_otherDots 15 = .ok (.iload_n 2, 1) := by decide +kernel
theorem dX0_otherDots_16 : decode cX0_otherDots 16 = .ok (.iaload, 1) := by decide +kernel
theorem dX0_otherDots_17 : decode cX0_otherDots 17 = .ok (.aload_n 0, 1) := by decide +kernel
theorem dX0_otherDots_18 : decode cX0_otherDots 18 = .ok (.getfield 15, 3) := by decide +kernel
theorem dX0_otherDots_21 : decode cX0_otherDots 21 = .ok (.iload_n 2, 1) := by decide +kernel
theorem dX0_otherDots_22 : decode cX0_otherDots 22 = .ok (.iaload, 1) := by decide +kernel
theorem dX0_otherDots_23 : decode cX0_otherDots 23 = .ok (.ixor, 1) := by decide +kernel
theorem dX0_otherDots_24 : decode cX0_otherDots 24 = .ok (.invokestatic 49, 3) := by decide +kernel
theorem dX0_otherDots_27 : decode cX0_otherDots 27 = .ok (.iadd, 1) := by decide +kernel
theorem dX0_otherDots_28 : decode cX0_otherDots 28 = .ok (.istore_n 1, 1) := by decide +kernel
theorem dX0_otherDots_29 : decode cX0_otherDots 29 = .ok (.iinc 2 1, 3) := by decide +kernel
theorem dX0_otherDots_32 : decode cX0_otherDots 32 = .ok (.goto (-28), 3) := by decide +kernel
theorem dX0_otherDots_35 : decode cX0_otherDots 35 = .ok (.iload_n 1, 1) := by decide +kernel
theorem dX0_otherDots_36 : decode cX0_otherDots 36 = .ok (.ireturn, 1) := by decide +kernel
theorem dX0_knownAgainst_0 : decode cX0_knownAgainst 0 = .ok (.iconst 0, 1) := by decide +kernel
theorem dX0_knownAgainst_1 : decode cX0_knownAgainst 1 = .ok (.istore_n 2, 1) := by decide +kernel
theorem dX0_knownAgainst_2 : decode cX0_knownAgainst 2 = .ok (.iconst 0, 1) := by decide +kernel
theorem dX0_knownAgainst_3 : decode cX0_knownAgainst 3 = .ok (.istore_n 3, 1) := by decide +kernel
theorem dX0_knownAgainst_4 : decode cX0_knownAgainst 4 = .ok (.iload_n 3, 1) := by decide +kernel
theorem dX0_knownAgainst_5 : decode cX0_knownAgainst 5 = .ok (.bipush 40, 2) := by decide +kernel
theorem dX0_knownAgainst_7 : decode cX0_knownAgainst 7 = .ok (.if_icmp .ge 42, 3) := by decide +kernel
theorem dX0_knownAgainst_10 : decode cX0_knownAgainst 10 = .ok (.iload_n 3, 1) := by decide +kernel
theorem dX0_knownAgainst_11 : decode cX0_knownAgainst 11 = .ok (.aload_n 1, 1) := by decide +kernel
theorem dX0_knownAgainst_12 : decode cX0_knownAgainst 12 = .ok (.arraylength, 1) := by decide +kernel
theorem dX0_knownAgainst_13 : decode cX0_knownAgainst 13 = .ok (.if_icmp .ge 36, 3) := by decide +kernel
theorem dX0_knownAgainst_16 : decode cX0_knownAgainst 16 = .ok (.aload_n 1, 1) := by decide +kernel
theorem dX0_knownAgainst_17 : decode cX0_knownAgainst 17 = .ok (.iload_n 3, 1) := by decide +kernel
theorem dX0_knownAgainst_18 : decode cX0_knownAgainst 18 = .ok (.iaload, 1) := by decide +kernel
theorem dX0_knownAgainst_19 : decode cX0_knownAgainst 19 = .ok (.aload_n 0, 1) := by decide +kernel
theorem dX0_knownAgainst_20 : decode cX0_knownAgainst 20 = .ok (.getfield 15, 3) := by decide +kernel
theorem dX0_knownAgainst_23 : decode cX0_knownAgainst 23 = .ok (.iload_n 3, 1) := by decide +kernel
theorem dX0_knownAgainst_24 : decode cX0_knownAgainst 24 = .ok (.iaload, 1) := by decide +kernel
theorem dX0_knownAgainst_25 : decode cX0_knownAgainst 25 = .ok (.ixor, 1) := by decide +kernel
theorem dX0_knownAgainst_26 : decode cX0_knownAgainst 26 = .ok (.istore 4, 2) := by decide +kernel
theorem dX0_knownAgainst_28 : decode cX0_knownAgainst 28 = .ok (.iload_n 2, 1) := by decide +kernel
theorem dX0_knownAgainst_29 : decode cX0_knownAgainst 29 = .ok (.iload 4, 2) := by decide +kernel
theorem dX0_knownAgainst_31 : decode cX0_knownAgainst 31 = .ok (.aload_n 0, 1) := by decide +kernel
theorem dX0_knownAgainst_32 : decode cX0_knownAgainst 32 = .ok (.getfield 25, 3) := by decide +kernel
theorem dX0_knownAgainst_35 : decode cX0_knownAgainst 35 = .ok (.iload_n 3, 1) := by decide +kernel
theorem dX0_knownAgainst_36 : decode cX0_knownAgainst 36 = .ok (.iaload, 1) := by decide +kernel
theorem dX0_knownAgainst_37 : decode cX0_knownAgainst 37 = .ok (.iand, 1) := by decide +kernel
theorem dX0_knownAgainst_38 : decode cX0_knownAgainst 38 = .ok (.invokestatic 49, 3) := by decide +kernel
theorem dX0_knownAgainst_41 : decode cX0_knownAgainst 41 = .ok (.iadd, 1) := by decide +kernel
theorem dX0_knownAgainst_42 : decode cX0_knownAgainst 42 = .ok (.istore_n 2, 1) := by decide +kernel
theorem dX0_knownAgainst_43 : decode cX0_knownAgainst 43 = .ok (.iinc 3 1, 3) := by decide +kernel
theorem dX0_knownAgainst_46 : decode cX0_knownAgainst 46 = .ok (.goto (-42), 3) := by decide +kernel
theorem dX0_knownAgainst_49 : decode cX0_knownAgainst 49 = .ok (.iload_n 2, 1) := by decide +kernel
theorem dX0_knownAgainst_50 : decode cX0_knownAgainst 50 = .ok (.ireturn, 1) := by decide +kernel
theorem dX0_isStuck_0 : decode cX0_isStuck 0 = .ok (.aload_n 0, 1) := by decide +kernel
theorem dX0_isStuck_1 : decode cX0_isStuck 1 = .ok (.iload_n 1, 1) := by decide +kernel
theorem dX0_isStuck_2 : decode cX0_isStuck 2 = .ok (.iload_n 2, 1) := by decide +kernel
theorem dX0_isStuck_3 : decode cX0_isStuck 3 = .ok (.invokevirtual 59, 3) := by decide +kernel
theorem dX0_isStuck_6 : decode cX0_isStuck 6 = .ok (.ifCond .eq 20, 3) := by decide +kernel
theorem dX0_isStuck_9 : decode cX0_isStuck 9 = .ok (.aload_n 0, 1) := by decide +kernel
theorem dX0_isStuck_10 : decode cX0_isStuck 10 = .ok (.getfield 22, 3) := by decide +kernel
theorem dX0_isStuck_13 : decode cX0_isStuck 13 = .ok (.iload_n 1, 1) := by decide +kernel
theorem dX0_isStuck_14 : decode cX0_isStuck 14 = .ok (.iaload, 1) := by decide +kernel
theorem dX0_isStuck_15 : decode cX0_isStuck 15 = .ok (.iconst 1, 1) := by decide +kernel
theorem dX0_isStuck_16 : decode cX0_isStuck 16 = .ok (.iload_n 2, 1) := by decide +kernel
theorem dX0_isStuck_17 : decode cX0_isStuck 17 = .ok (.ishl, 1) := by decide +kernel
theorem dX0_isStuck_18 : decode cX0_isStuck 18 = .ok (.iand, 1) := by decide +kernel
theorem dX0_isStuck_19 : decode cX0_isStuck 19 = .ok (.ifCond .eq 7, 3) := by decide +kernel
theorem dX0_isStuck_22 : decode cX0_isStuck 22 = .ok (.iconst 1, 1) := by decide +kernel
theorem dX0_isStuck_23 : decode cX0_isStuck 23 = .ok (.goto 4, 3) := by decide +kernel
theorem dX0_isStuck_26 : decode cX0_isStuck 26 = .ok (.iconst 0, 1) := by decide +kernel
theorem dX0_isStuck_27 : decode cX0_isStuck 27 = .ok (.ireturn, 1) := by decide +kernel
theorem dX0_stick_0 : decode cX0_stick 0 = .ok (.aload_n 0, 1) := by decide +kernel
theorem dX0_stick_1 : decode cX0_stick 1 = .ok (.iload_n 1, 1) := by decide +kernel
theorem dX0_stick_2 : decode cX0_stick 2 = .ok (.iload_n 2, 1) := by decide +kernel
theorem dX0_stick_3 : decode cX0_stick 3 = .ok (.invokevirtual 59, 3) := by decide +kernel
theorem dX0_stick_6 : decode cX0_stick 6 = .ok (.ifCond .eq 15, 3) := by decide +kernel
theorem dX0_stick_9 : decode cX0_stick 9 = .ok (.aload_n 0, 1) := by decide +kernel
theorem dX0_stick_10 : decode cX0_stick 10 = .ok (.getfield 22, 3) := by decide +kernel
theorem dX0_stick_13 : decode cX0_stick 13 = .ok (.iload_n 1, 1) := by decide +kernel
theorem dX0_stick_14 : decode cX0_stick 14 = .ok (.dup2, 1) := by decide +kernel
theorem dX0_stick_15 : decode cX0_stick 15 = .ok (.iaload, 1) := by decide +kernel
theorem dX0_stick_16 : decode cX0_stick 16 = .ok (.iconst 1, 1) := by decide +kernel
theorem dX0_stick_17 : decode cX0_stick 17 = .ok (.iload_n 2, 1) := by decide +kernel
theorem dX0_stick_18 : decode cX0_stick 18 = .ok (.ishl, 1) := by decide +kernel
theorem dX0_stick_19 : decode cX0_stick 19 = .ok (.ior, 1) := by decide +kernel
theorem dX0_stick_20 : decode cX0_stick 20 = .ok (.iastore, 1) := by decide +kernel
theorem dX0_stick_21 : decode cX0_stick 21 = .ok (.return_, 1) := by decide +kernel
theorem dX0_makeKnown_0 : decode cX0_makeKnown 0 = .ok (.aload_n 0, 1) := by decide +kernel
theorem dX0_makeKnown_1 : decode cX0_makeKnown 1 = .ok (.iload_n 1, 1) := by decide +kernel
theorem dX0_makeKnown_2 : decode cX0_makeKnown 2 = .ok (.iload_n 2, 1) := by decide +kernel
theorem dX0_makeKnown_3 : decode cX0_makeKnown 3 = .ok (.invokevirtual 59, 3) := by decide +kernel
theorem dX0_makeKnown_6 : decode cX0_makeKnown 6 = .ok (.ifCond .eq 15, 3) := by decide +kernel
theorem dX0_makeKnown_9 : decode cX0_makeKnown 9 = .ok (.aload_n 0, 1) := by decide +kernel
theorem dX0_makeKnown_10 : decode cX0_makeKnown 10 = .ok (.getfield 25, 3) := by decide +kernel
theorem dX0_makeKnown_13 : decode cX0_makeKnown 13 = .ok (.iload_n 1, 1) := by decide +kernel
theorem dX0_makeKnown_14 : decode cX0_makeKnown 14 = .ok (.dup2, 1) := by decide +kernel
theorem dX0_makeKnown_15 : decode cX0_makeKnown 15 = .ok (.iaload, 1) := by decide +kernel
theorem dX0_makeKnown_16 : decode cX0_makeKnown 16 = .ok (.iconst 1, 1) := by decide +kernel
theorem dX0_makeKnown_17 : decode cX0_makeKnown 17 = .ok (.iload_n 2, 1) := by decide +kernel
theorem dX0_makeKnown_18 : decode cX0_makeKnown 18 = .ok (.ishl, 1) := by decide +kernel
theorem dX0_makeKnown_19 : decode cX0_makeKnown 19 = .ok (.ior, 1) := by decide +kernel
theorem dX0_makeKnown_20 : decode cX0_makeKnown 20 = .ok (.iastore, 1) := by decide +kernel
theorem dX0_makeKnown_21 : decode cX0_makeKnown 21 = .ok (.return_, 1) := by decide +kernel
theorem dX0_flip_0 : decode cX0_flip 0 = .ok (.aload_n 0, 1) := by decide +kernel
theorem dX0_flip_1 : decode cX0_flip 1 = .ok (.iload_n 1, 1) := by decide +kernel
theorem dX0_flip_2 : decode cX0_flip 2 = .ok (.iload_n 2, 1) := by decide +kernel
theorem dX0_flip_3 : decode cX0_flip 3 = .ok (.invokevirtual 59, 3) := by decide +kernel
theorem dX0_flip_6 : decode cX0_flip 6 = .ok (.ifCond .eq 30, 3) := by decide +kernel
theorem dX0_flip_9 : decode cX0_flip 9 = .ok (.aload_n 0, 1) := by decide +kernel
theorem dX0_flip_10 : decode cX0_flip 10 = .ok (.getfield 15, 3) := by decide +kernel
theorem dX0_flip_13 : decode cX0_flip 13 = .ok (.iload_n 1, 1) := by decide +kernel
theorem dX0_flip_14 : decode cX0_flip 14 = .ok (.dup2, 1) := by decide +kernel
theorem dX0_flip_15 : decode cX0_flip 15 = .ok (.iaload, 1) := by decide +kernel
theorem dX0_flip_16 : decode cX0_flip 16 = .ok (.iconst 1, 1) := by decide +kernel
theorem dX0_flip_17 : decode cX0_flip 17 = .ok (.iload_n 2, 1) := by decide +kernel
theorem dX0_flip_18 : decode cX0_flip 18 = .ok (.ishl, 1) := by decide +kernel
theorem dX0_flip_19 : decode cX0_flip 19 = .ok (.ixor, 1) := by decide +kernel
theorem dX0_flip_20 : decode cX0_flip 20 = .ok (.iastore, 1) := by decide +kernel
theorem dX0_flip_21 : decode cX0_flip 21 = .ok (.aload_n 0, 1) := by decide +kernel
theorem dX0_flip_22 : decode cX0_flip 22 = .ok (.getfield 28, 3) := by decide +kernel
theorem dX0_flip_25 : decode cX0_flip 25 = .ok (.iload_n 1, 1) := by decide +kernel
theorem dX0_flip_26 : decode cX0_flip 26 = .ok (.bipush 7, 2) := by decide +kernel
theorem dX0_flip_28 : decode cX0_flip 28 = .ok (.imul, 1) := by decide +kernel
theorem dX0_flip_29 : decode cX0_flip 29 = .ok (.iload_n 2, 1) := by decide +kernel
theorem dX0_flip_30 : decode cX0_flip 30 = .ok (.iadd, 1) := by decide +kernel
theorem dX0_flip_31 : decode cX0_flip 31 = .ok (.dup2, 1) := by decide +kernel
theorem dX0_flip_32 : decode cX0_flip 32 = .ok (.iaload, 1) := by decide +kernel
theorem dX0_flip_33 : decode cX0_flip 33 = .ok (.iconst 1, 1) := by decide +kernel
theorem dX0_flip_34 : decode cX0_flip 34 = .ok (.iadd, 1) := by decide +kernel
theorem dX0_flip_35 : decode cX0_flip 35 = .ok (.iastore, 1) := by decide +kernel
theorem dX0_flip_36 : decode cX0_flip 36 = .ok (.return_, 1) := by decide +kernel
theorem dX0_flipsOf_0 : decode cX0_flipsOf 0 = .ok (.aload_n 0, 1) := by decide +kernel
theorem dX0_flipsOf_1 : decode cX0_flipsOf 1 = .ok (.iload_n 1, 1) := by decide +kernel
theorem dX0_flipsOf_2 : decode cX0_flipsOf 2 = .ok (.iload_n 2, 1) := by decide +kernel
theorem dX0_flipsOf_3 : decode cX0_flipsOf 3 = .ok (.invokevirtual 59, 3) := by decide +kernel
theorem dX0_flipsOf_6 : decode cX0_flipsOf 6 = .ok (.ifCond .eq 17, 3) := by decide +kernel
theorem dX0_flipsOf_9 : decode cX0_flipsOf 9 = .ok (.aload_n 0, 1) := by decide +kernel
theorem dX0_flipsOf_10 : decode cX0_flipsOf 10 = .ok (.getfield 28, 3) := by decide +kernel
theorem dX0_flipsOf_13 : decode cX0_flipsOf 13 = .ok (.iload_n 1, 1) := by decide +kernel
theorem dX0_flipsOf_14 : decode cX0_flipsOf 14 = .ok (.bipush 7, 2) := by decide +kernel
theorem dX0_flipsOf_16 : decode cX0_flipsOf 16 = .ok (.imul, 1) := by decide +kernel
theorem dX0_flipsOf_17 : decode cX0_flipsOf 17 = .ok (.iload_n 2, 1) := by decide +kernel
theorem dX0_flipsOf_18 : decode cX0_flipsOf 18 = .ok (.iadd, 1) := by decide +kernel
theorem dX0_flipsOf_19 : decode cX0_flipsOf 19 = .ok (.iaload, 1) := by decide +kernel
theorem dX0_flipsOf_20 : decode cX0_flipsOf 20 = .ok (.goto 4, 3) := by decide +kernel
theorem dX0_flipsOf_23 : decode cX0_flipsOf 23 = .ok (.iconst 0, 1) := by decide +kernel
theorem dX0_flipsOf_24 : decode cX0_flipsOf 24 = .ok (.ireturn, 1) := by decide +kernel
theorem dX0_renewDot_0 : decode cX0_renewDot 0 = .ok (.aload_n 0, 1) := by decide +kernel
theorem dX0_renewDot_1 : decode cX0_renewDot 1 = .ok (.iload_n 1, 1) := by decide +kernel
theorem dX0_renewDot_2 : decode cX0_renewDot 2 = .ok (.iload_n 2, 1) := by decide +kernel
theorem dX0_renewDot_3 : decode cX0_renewDot 3 = .ok (.invokevirtual 59, 3) := by decide +kernel
theorem dX0_renewDot_6 : decode cX0_renewDot 6 = .ok (.ifCond .eq 43, 3) := by decide +kernel
theorem dX0_renewDot_9 : decode cX0_renewDot 9 = .ok (.aload_n 0, 1) := by decide +kernel
theorem dX0_renewDot_10 : decode cX0_renewDot 10 = .ok (.getfield 22, 3) := by decide +kernel
theorem dX0_renewDot_13 : decode cX0_renewDot 13 = .ok (.iload_n 1, 1) := by decide +kernel
theorem dX0_renewDot_14 : decode cX0_renewDot 14 = .ok (.dup2, 1) := by decide +kernel
theorem dX0_renewDot_15 : decode cX0_renewDot 15 = .ok (.iaload, 1) := by decide +kernel
theorem dX0_renewDot_16 : decode cX0_renewDot 16 = .ok (.iconst 1, 1) := by decide +kernel
theorem dX0_renewDot_17 : decode cX0_renewDot 17 = .ok (.iload_n 2, 1) := by decide +kernel
theorem dX0_renewDot_18 : decode cX0_renewDot 18 = .ok (.ishl, 1) := by decide +kernel
theorem dX0_renewDot_19 : decode cX0_renewDot 19 = .ok (.iconst (-1), 1) := by decide +kernel
theorem dX0_renewDot_20 : decode cX0_renewDot 20 = .ok (.ixor, 1) := by decide +kernel
theorem dX0_renewDot_21 : decode cX0_renewDot 21 = .ok (.iand, 1) := by decide +kernel
theorem dX0_renewDot_22 : decode cX0_renewDot 22 = .ok (.iastore, 1) := by decide +kernel
theorem dX0_renewDot_23 : decode cX0_renewDot 23 = .ok (.aload_n 0, 1) := by decide +kernel
theorem dX0_renewDot_24 : decode cX0_renewDot 24 = .ok (.getfield 25, 3) := by decide +kernel
theorem dX0_renewDot_27 : decode cX0_renewDot 27 = .ok (.iload_n 1, 1) := by decide +kernel
theorem dX0_renewDot_28 : decode cX0_renewDot 28 = .ok (.dup2, 1) := by decide +kernel
theorem dX0_renewDot_29 : decode cX0_renewDot 29 = .ok (.iaload, 1) := by decide +kernel
theorem dX0_renewDot_30 : decode cX0_renewDot 30 = .ok (.iconst 1, 1) := by decide +kernel
theorem dX0_renewDot_31 : decode cX0_renewDot 31 = .ok (.iload_n 2, 1) := by decide +kernel
theorem dX0_renewDot_32 : decode cX0_renewDot 32 = .ok (.ishl, 1) := by decide +kernel
theorem dX0_renewDot_33 : decode cX0_renewDot 33 = .ok (.iconst (-1), 1) := by decide +kernel
theorem dX0_renewDot_34 : decode cX0_renewDot 34 = .ok (.ixor, 1) := by decide +kernel
theorem dX0_renewDot_35 : decode cX0_renewDot 35 = .ok (.iand, 1) := by decide +kernel
theorem dX0_renewDot_36 : decode cX0_renewDot 36 = .ok (.iastore, 1) := by decide +kernel
theorem dX0_renewDot_37 : decode cX0_renewDot 37 = .ok (.aload_n 0, 1) := by decide +kernel
theorem dX0_renewDot_38 : decode cX0_renewDot 38 = .ok (.getfield 28, 3) := by decide +kernel
theorem dX0_renewDot_41 : decode cX0_renewDot 41 = .ok (.iload_n 1, 1) := by decide +kernel
theorem dX0_renewDot_42 : decode cX0_renewDot 42 = .ok (.bipush 7, 2) := by decide +kernel
theorem dX0_renewDot_44 : decode cX0_renewDot 44 = .ok (.imul, 1) := by decide +kernel
theorem dX0_renewDot_45 : decode cX0_renewDot 45 = .ok (.iload_n 2, 1) := by decide +kernel
theorem dX0_renewDot_46 : decode cX0_renewDot 46 = .ok (.iadd, 1) := by decide +kernel
theorem dX0_renewDot_47 : decode cX0_renewDot 47 = .ok (.iconst 0, 1) := by decide +kernel
theorem dX0_renewDot_48 : decode cX0_renewDot 48 = .ok (.iastore, 1) := by decide +kernel
theorem dX0_renewDot_49 : decode cX0_renewDot 49 = .ok (.return_, 1) := by decide +kernel
theorem dX1_init_0 : decode cX1_init 0 = .ok (.aload_n 0, 1) := by decide +kernel
theorem dX1_init_1 : decode cX1_init 1 = .ok (.invokespecial 3, 3) := by decide +kernel
theorem dX1_init_4 : decode cX1_init 4 = .ok (.aload_n 0, 1) := by decide +kernel
theorem dX1_init_5 : decode cX1_init 5 = .ok (.bipush 40, 2) := by decide +kernel
theorem dX1_init_7 : decode cX1_init 7 = .ok (.newarray .int, 2) := by decide +kernel
theorem dX1_init_9 : decode cX1_init 9 = .ok (.putfield 9, 3) := by decide +kernel
theorem dX1_init_12 : decode cX1_init 12 = .ok (.return_, 1) := by decide +kernel
theorem dX1_passSecond_0 : decode cX1_passSecond 0 = .ok (.aload_n 1, 1) := by decide +kernel
theorem dX1_passSecond_1 : decode cX1_passSecond 1 = .ok (.getfield 15, 3) := by decide +kernel
theorem dX1_passSecond_4 : decode cX1_passSecond 4 = .ok (.iconst 0, 1) := by decide +kernel
theorem dX1_passSecond_5 : decode cX1_passSecond 5 = .ok (.iaload, 1) := by decide +kernel
theorem dX1_passSecond_6 : decode cX1_passSecond 6 = .ok (.istore_n 2, 1) := by decide +kernel
theorem dX1_passSecond_7 : decode cX1_passSecond 7 = .ok (.iload_n 2, 1) := by decide +kernel
theorem dX1_passSecond_8 : decode cX1_passSecond 8 = .ok (.istore_n 3, 1) := by decide +kernel
theorem dX1_passSecond_9 : decode cX1_passSecond 9 = .ok (.aload_n 0, 1) := by decide +kernel
theorem dX1_passSecond_10 : decode cX1_passSecond 10 = .ok (.aload_n 1, 1) := by decide +kernel
theorem dX1_passSecond_11 : decode cX1_passSecond 11 = .ok (.getfield 20, 3) := by decide +kernel
theorem dX1_passSecond_14 : decode cX1_passSecond 14 = .ok (.aload_n 1, 1) := by decide +kernel
theorem dX1_passSecond_15 : decode cX1_passSecond 15 = .ok (.getfield 15, 3) := by decide +kernel
theorem dX1_passSecond_18 : decode cX1_passSecond 18 = .ok (.iconst 1, 1) := by decide +kernel
theorem dX1_passSecond_19 : decode cX1_passSecond 19 = .ok (.iaload, 1) := by decide +kernel
theorem dX1_passSecond_20 : decode cX1_passSecond 20 = .ok (.invokevirtual 24, 3) := by decide +kernel
theorem dX1_passSecond_23 : decode cX1_passSecond 23 = .ok (.iconst 0, 1) := by decide +kernel
theorem dX1_passSecond_24 : decode cX1_passSecond 24 = .ok (.istore 4, 2) := by decide +kernel
theorem dX1_passSecond_26 : decode cX1_passSecond 26 = .ok (.iload 4, 2) := by decide +kernel
theorem dX1_passSecond_28 : decode cX1_passSecond 28 = .ok (.bipush 40, 2) := by decide +kernel
theorem dX1_passSecond_30 : decode cX1_passSecond 30 = .ok (.if_icmp .ge 46, 3) := by decide +kernel
theorem dX1_passSecond_33 : decode cX1_passSecond 33 = .ok (.iload_n 3, 1) := by decide +kernel
theorem dX1_passSecond_34 : decode cX1_passSecond 34 = .ok (.iconst 1, 1) := by decide +kernel
theorem dX1_passSecond_35 : decode cX1_passSecond 35 = .ok (.if_icmp .le 41, 3) := by decide +kernel
theorem dX1_passSecond_38 : decode cX1_passSecond 38 = .ok (.aload_n 0, 1) := by decide +kernel
theorem dX1_passSecond_39 : decode cX1_passSecond 39 = .ok (.getfield 9, 3) := by decide +kernel
theorem dX1_passSecond_42 : decode cX1_passSecond 42 = .ok (.iload 4, 2) := by decide +kernel
theorem dX1_passSecond_44 : decode cX1_passSecond 44 = .ok (.iaload, 1) := by decide +kernel
theorem dX1_passSecond_45 : decode cX1_passSecond 45 = .ok (.istore 5, 2) := by decide +kernel
theorem dX1_passSecond_47 : decode cX1_passSecond 47 = .ok (.aload_n 1, 1) := by decide +kernel
theorem dX1_passSecond_48 : decode cX1_passSecond 48 = .ok (.getfield 20, 3) := by decide +kernel
theorem dX1_passSecond_51 : decode cX1_passSecond 51 = .ok (.iload 5, 2) := by decide +kernel
theorem dX1_passSecond_53 : decode cX1_passSecond 53 = .ok (.invokevirtual 28, 3) := by decide +kernel
theorem dX1_passSecond_56 : decode cX1_passSecond 56 = .ok (.ifCond .eq 14, 3) := by decide +kernel
theorem dX1_passSecond_59 : decode cX1_passSecond 59 = .ok (.aload_n 0, 1) := by decide +kernel
theorem dX1_passSecond_60 : decode cX1_passSecond 60 = .ok (.aload_n 1, 1) := by decide +kernel
theorem dX1_passSecond_61 : decode cX1_passSecond 61 = .ok (.iload 5, 2) := by decide +kernel
theorem dX1_passSecond_63 : decode cX1_passSecond 63 = .ok (.iload_n 3, 1) := by decide +kernel
theorem dX1_passSecond_64 : decode cX1_passSecond 64 = .ok (.iconst 1, 1) := by decide +kernel
theorem dX1_passSecond_65 : decode cX1_passSecond 65 = .ok (.isub, 1) := by decide +kernel
theorem dX1_passSecond_66 : decode cX1_passSecond 66 = .ok (.invokevirtual 34, 3) := by decide +kernel
theorem dX1_passSecond_69 : decode cX1_passSecond 69 = .ok (.istore_n 3, 1) := by decide +kernel
theorem dX1_passSecond_70 : decode cX1_passSecond 70 = .ok (.iinc 4 1, 3) := by decide +kernel
theorem dX1_passSecond_73 : decode cX1_passSecond 73 = .ok (.goto (-47), 3) := by decide +kernel
theorem dX1_passSecond_76 : decode cX1_passSecond 76 = .ok (.aload_n 1, 1) := by decide +kernel
theorem dX1_passSecond_77 : decode cX1_passSecond 77 = .ok (.getfield 38, 3) := by decide +kernel
theorem dX1_passSecond_80 : decode cX1_passSecond 80 = .ok (.iload_n 2, 1) := by decide +kernel
theorem dX1_passSecond_81 : decode cX1_passSecond 81 = .ok (.iload_n 3, 1) := by decide +kernel
theorem dX1_passSecond_82 : decode cX1_passSecond 82 = .ok (.isub, 1) := by decide +kernel
theorem dX1_passSecond_83 : decode cX1_passSecond 83 = .ok (.invokevirtual 42, 3) := by decide +kernel
theorem dX1_passSecond_86 : decode cX1_passSecond 86 = .ok (.return_, 1) := by decide +kernel
theorem dX1_flipColumn_0 : decode cX1_flipColumn 0 = .ok (.iload_n 3, 1) := by decide +kernel
theorem dX1_flipColumn_1 : decode cX1_flipColumn 1 = .ok (.istore 4, 2) := by decide +kernel
theorem dX1_flipColumn_3 : decode cX1_flipColumn 3 = .ok (.aload_n 1, 1) := by decide +kernel
theorem dX1_flipColumn_4 : decode cX1_flipColumn 4 = .ok (.getfield 20, 3) := by decide +kernel
theorem dX1_flipColumn_7 : decode cX1_flipColumn 7 = .ok (.iload_n 2, 1) := by decide +kernel
theorem dX1_flipColumn_8 : decode cX1_flipColumn 8 = .ok (.invokevirtual 28, 3) := by decide +kernel
theorem dX1_flipColumn_11 : decode cX1_flipColumn 11 = .ok (.istore 5, 2) := by decide +kernel
theorem dX1_flipColumn_13 : decode cX1_flipColumn 13 = .ok (.iconst 0, 1) := by decide +kernel
theorem dX1_flipColumn_14 : decode cX1_flipColumn 14 = .ok (.istore 6, 2) := by decide +kernel
theorem dX1_flipColumn_16 : decode cX1_flipColumn 16 = .ok (.iload 6, 2) := by decide +kernel
theorem dX1_flipColumn_18 : decode cX1_flipColumn 18 = .ok (.bipush 7, 2) := by decide +kernel
theorem dX1_flipColumn_20 : decode cX1_flipColumn 20 = .ok (.if_icmp .ge 34, 3) := by decide +kernel
theorem dX1_flipColumn_23 : decode cX1_flipColumn 23 = .ok (.iload 4, 2) := by decide +kernel
theorem dX1_flipColumn_25 : decode cX1_flipColumn 25 = .ok (.ifCond .le 29, 3) := by decide +kernel
theorem dX1_flipColumn_28 : decode cX1_flipColumn 28 = .ok (.iload 5, 2) := by decide +kernel
theorem dX1_flipColumn_30 : decode cX1_flipColumn 30 = .ok (.iconst 1, 1) := by decide +kernel
theorem dX1_flipColumn_31 : decode cX1_flipColumn 31 = .ok (.iload 6, 2) := by decide +kernel
theorem dX1_flipColumn_33 : decode cX1_flipColumn 33 = .ok (.ishl, 1) := by decide +kernel
theorem dX1_flipColumn_34 : decode cX1_flipColumn 34 = .ok (.iand, 1) := by decide +kernel
theorem dX1_flipColumn_35 : decode cX1_flipColumn 35 = .ok (.ifCond .eq 13, 3) := by decide +kernel
theorem dX1_flipColumn_38 : decode cX1_flipColumn 38 = .ok (.aload_n 1, 1) := by decide +kernel
theorem dX1_flipColumn_39 : decode cX1_flipColumn 39 = .ok (.iload_n 2, 1) := by decide +kernel
theorem dX1_flipColumn_40 : decode cX1_flipColumn 40 = .ok (.iload 6, 2) := by decide +kernel
theorem dX1_flipColumn_42 : decode cX1_flipColumn 42 = .ok (.invokevirtual 48, 3) := by decide +kernel
theorem dX1_flipColumn_45 : decode cX1_flipColumn 45 = .ok (.iinc 4 (-1), 3) := by decide +kernel
theorem dX1_flipColumn_48 : decode cX1_flipColumn 48 = .ok (.iinc 6 1, 3) := by decide +kernel
theorem dX1_flipColumn_51 : decode cX1_flipColumn 51 = .ok (.goto (-35), 3) := by decide +kernel
theorem dX1_flipColumn_54 : decode cX1_flipColumn 54 = .ok (.iload 4, 2) := by decide +kernel
theorem dX1_flipColumn_56 : decode cX1_flipColumn 56 = .ok (.ireturn, 1) := by decide +kernel
theorem dX1_arrange_0 : decode cX1_arrange 0 = .ok (.iload_n 2, 1) := by decide +kernel
theorem dX1_arrange_1 : decode cX1_arrange 1 = .ok (.iconst 2, 1) := by decide +kernel
theorem dX1_arrange_2 : decode cX1_arrange 2 = .ok (.if_icmp .ne 9, 3) := by decide +kernel
theorem dX1_arrange_5 : decode cX1_arrange 5 = .ok (.aload_n 0, 1) := by decide +kernel
theorem dX1_arrange_6 : decode cX1_arrange 6 = .ok (.aload_n 1, 1) := by decide +kernel
theorem dX1_arrange_7 : decode cX1_arrange 7 = .ok (.invokevirtual 52, 3) := by decide +kernel
theorem dX1_arrange_10 : decode cX1_arrange 10 = .ok (.return_, 1) := by decide +kernel
theorem dX1_arrange_11 : decode cX1_arrange 11 = .ok (.iconst 0, 1) := by decide +kernel
theorem dX1_arrange_12 : decode cX1_arrange 12 = .ok (.istore_n 3, 1) := by decide +kernel
theorem dX1_arrange_13 : decode cX1_arrange 13 = .ok (.iload_n 3, 1) := by decide +kernel
theorem dX1_arrange_14 : decode cX1_arrange 14 = .ok (.bipush 40, 2) := by decide +kernel
theorem dX1_arrange_16 : decode cX1_arrange 16 = .ok (.if_icmp .ge 28, 3) := by decide +kernel
theorem dX1_arrange_19 : decode cX1_arrange 19 = .ok (.aload_n 0, 1) := by decide +kernel
theorem dX1_arrange_20 : decode cX1_arrange 20 = .ok (.getfield 9, 3) := by decide +kernel
theorem dX1_arrange_23 : decode cX1_arrange 23 = .ok (.iload_n 3, 1) := by decide +kernel
theorem dX1_arrange_24 : decode cX1_arrange 24 = .ok (.iload_n 2, 1) := by decide +kernel
theorem dX1_arrange_25 : decode cX1_arrange 25 = .ok (.iconst 1, 1) := by decide +kernel
theorem dX1_arrange_26 : decode cX1_arrange 26 = .ok (.if_icmp .ne 10, 3) := by decide +kernel
theorem dX1_arrange_29 : decode cX1_arrange 29 = .ok (.bipush 39, 2) := by decide +kernel
theorem dX1_arrange_31 : decode cX1_arrange 31 = .ok (.iload_n 3, 1) := by decide +kernel
theorem dX1_arrange_32 : decode cX1_arrange 32 = .ok (.isub, 1) := by decide +kernel
theorem dX1_arrange_33 : decode cX1_arrange 33 = .ok (.goto 4, 3) := by decide +kernel
theorem dX1_arrange_36 : decode cX1_arrange 36 = .ok (.iload_n 3, 1) := by decide +kernel
theorem dX1_arrange_37 : decode cX1_arrange 37 = .ok (.iastore, 1) := by decide +kernel
theorem dX1_arrange_38 : decode cX1_arrange 38 = .ok (.iinc 3 1, 3) := by decide +kernel
theorem dX1_arrange_41 : decode cX1_arrange 41 = .ok (.goto (-28), 3) := by decide +kernel
theorem dX1_arrange_44 : decode cX1_arrange 44 = .ok (.return_, 1) := by decide +kernel
theorem dX1_arrangeByDueDots_0 : decode cX1_arrangeByDueDots 0 = .ok (.iconst 0, 1) := by decide +kernel
theorem dX1_arrangeByDueDots_1 : decode cX1_arrangeByDueDots 1 = .ok (.istore_n 2, 1) := by decide +kernel
theorem dX1_arrangeByDueDots_2 : decode cX1_arrangeByDueDots 2 = .ok (.bipush 7, 2) := by decide +kernel
theorem dX1_arrangeByDueDots_4 : decode cX1_arrangeByDueDots 4 = .ok (.istore_n 3, 1) := by decide +kernel
theorem dX1_arrangeByDueDots_5 : decode cX1_arrangeByDueDots 5 = .ok (.iload_n 3, 1) := by decide +kernel
theorem dX1_arrangeByDueDots_6 : decode cX1_arrangeByDueDots 6 = .ok (.ifCond .lt 67, 3) := by decide +kernel
theorem dX1_arrangeByDueDots_9 : decode cX1_arrangeByDueDots 9 = .ok (.iconst 0, 1) := by decide +kernel
theorem dX1_arrangeByDueDots_10 : decode cX1_arrangeByDueDots 10 = .ok (.istore 4, 2) := by decide +kernel
theorem dX1_arrangeByDueDots_12 : decode cX1_arrangeByDueDots 12 = .ok (.iload 4, 2) := by decide +kernel
theorem dX1_arrangeByDueDots_14 : decode cX1_arrangeByDueDots 14 = .ok (.bipush 40, 2) := by decide +kernel
theorem dX1_arrangeByDueDots_16 : decode cX1_arrangeByDueDots 16 = .ok (.if_icmp .ge 51, 3) := by decide +kernel
theorem dX1_arrangeByDueDots_19 : decode cX1_arrangeByDueDots 19 = .ok (.aload_n 1, 1) := by decide +kernel
theorem dX1_arrangeByDueDots_20 : decode cX1_arrangeByDueDots 20 = .ok (.iload 4, 2) := by decide +kernel
theorem dX1_arrangeByDueDots_22 : decode cX1_arrangeByDueDots 22 = .ok (.invokevirtual 28, 3) := by decide +kernel
theorem dX1_arrangeByDueDots_25 : decode cX1_arrangeByDueDots 25 = .ok (.invokestatic 56, 3) := by decide +kernel
theorem dX1_arrangeByDueDots_28 : decode cX1_arrangeByDueDots 28 = .ok (.iload_n 3, 1) := by decide +kernel
theorem dX1_arrangeByDueDots_29 : decode cX1_arrangeByDueDots 29 = .ok (.if_icmp .ne 7, 3) := by decide +kernel
theorem dX1_arrangeByDueDots_32 : decode cX1_arrangeByDueDots 32 = .ok (.iconst 1, 1) := by decide +kernel
theorem dX1_arrangeByDueDots_33 : decode cX1_arrangeByDueDots 33 = .ok (.goto 4, 3) := by decide +kernel
theorem dX1_arrangeByDueDots_36 : decode cX1_arrangeByDueDots 36 = .ok (.iconst 0, 1) := by decide +kernel
theorem dX1_arrangeByDueDots_37 : decode cX1_arrangeByDueDots 37 = .ok (.istore 5, 2) := by decide +kernel
theorem dX1_arrangeByDueDots_39 : decode cX1_arrangeByDueDots 39 = .ok (.iload 5, 2) := by decide +kernel
theorem dX1_arrangeByDueDots_41 : decode cX1_arrangeByDueDots 41 = .ok (.ifCond .eq 20, 3) := by decide +kernel
theorem dX1_arrangeByDueDots_44 : decode cX1_arrangeByDueDots 44 = .ok (.iload_n 2, 1) := by decide +kernel
theorem dX1_arrangeByDueDots_45 : decode cX1_arrangeByDueDots 45 = .ok (.bipush 40, 2) := by decide +kernel
theorem dX1_arrangeByDueDots_47 : decode cX1_arrangeByDueDots 47 = .ok (.if_icmp .ge 14, 3) := by decide +kernel
theorem dX1_arrangeByDueDots_50 : decode cX1_arrangeByDueDots 50 = .ok (.aload_n 0, 1) := by decide +kernel
theorem dX1_arrangeByDueDots_51 : decode cX1_arrangeByDueDots 51 = .ok (.getfield 9, 3) := by decide +kernel
theorem dX1_arrangeByDueDots_54 : decode cX1_arrangeByDueDots 54 = .ok (.iload_n 2, 1) := by decide +kernel
theorem dX1_arrangeByDueDots_55 : decode cX1_arrangeByDueDots 55 = .ok (.iload 4, 2) := by decide +kernel
theorem dX1_arrangeByDueDots_57 : decode cX1_arrangeByDueDots 57 = .ok (.iastore, 1) := by decide +kernel
theorem dX1_arrangeByDueDots_58 : decode cX1_arrangeByDueDots 58 = .ok (.iinc 2 1, 3) := by decide +kernel
theorem dX1_arrangeByDueDots_61 : decode cX1_arrangeByDueDots 61 = .ok (.iinc 4 1, 3) := by decide +kernel
theorem dX1_arrangeByDueDots_64 : decode cX1_arrangeByDueDots 64 = .ok (.goto (-52), 3) := by decide +kernel
theorem dX1_arrangeByDueDots_67 : decode cX1_arrangeByDueDots 67 = .ok (.iinc 3 (-1), 3) := by decide +kernel
theorem dX1_arrangeByDueDots_70 : decode cX1_arrangeByDueDots 70 = .ok (.goto (-65), 3) := by decide +kernel
theorem dX1_arrangeByDueDots_73 : decode cX1_arrangeByDueDots 73 = .ok (.return_, 1) := by decide +kernel
theorem dX2_init_0 : decode cX2_init 0 = .ok (.aload_n 0, 1) := by decide +kernel
theorem dX2_init_1 : decode cX2_init 1 = .ok (.invokespecial 3, 3) := by decide +kernel
theorem dX2_init_4 : decode cX2_init 4 = .ok (.aload_n 0, 1) := by decide +kernel
theorem dX2_init_5 : decode cX2_init 5 = .ok (.bipush 6, 2) := by decide +kernel
theorem dX2_init_7 : decode cX2_init 7 = .ok (.anewarray 9, 3) := by decide +kernel
theorem dX2_init_10 : decode cX2_init 10 = .ok (.putfield 11, 3) := by decide +kernel
theorem dX2_init_13 : decode cX2_init 13 = .ok (.aload_n 0, 1) := by decide +kernel
theorem dX2_init_14 : decode cX2_init 14 = .ok (.iconst 0, 1) := by decide +kernel
theorem dX2_init_15 : decode cX2_init 15 = .ok (.putfield 17, 3) := by decide +kernel
theorem dX2_init_18 : decode cX2_init 18 = .ok (.aload_n 0, 1) := by decide +kernel
theorem dX2_init_19 : decode cX2_init 19 = .ok (.iconst 0, 1) := by decide +kernel
theorem dX2_init_20 : decode cX2_init 20 = .ok (.putfield 21, 3) := by decide +kernel
theorem dX2_init_23 : decode cX2_init 23 = .ok (.iconst 0, 1) := by decide +kernel
theorem dX2_init_24 : decode cX2_init 24 = .ok (.istore_n 1, 1) := by decide +kernel
theorem dX2_init_25 : decode cX2_init 25 = .ok (.iload_n 1, 1) := by decide +kernel
theorem dX2_init_26 : decode cX2_init 26 = .ok (.bipush 6, 2) := by decide +kernel
theorem dX2_init_28 : decode cX2_init 28 = .ok (.if_icmp .ge 22, 3) := by decide +kernel
theorem dX2_init_31 : decode cX2_init 31 = .ok (.aload_n 0, 1) := by decide +kernel
theorem dX2_init_32 : decode cX2_init 32 = .ok (.getfield 11, 3) := by decide +kernel
theorem dX2_init_35 : decode cX2_init 35 = .ok (.iload_n 1, 1) := by decide +kernel
theorem dX2_init_36 : decode cX2_init 36 = .ok (.new 9, 3) := by decide +kernel
theorem dX2_init_39 : decode cX2_init 39 = .ok (.dup, 1) := by decide +kernel
theorem dX2_init_40 : decode cX2_init 40 = .ok (.invokespecial 24, 3) := by decide +kernel
theorem dX2_init_43 : decode cX2_init 43 = .ok (.aastore, 1) := by decide +kernel
theorem dX2_init_44 : decode cX2_init 44 = .ok (.iinc 1 1, 3) := by decide +kernel
theorem dX2_init_47 : decode cX2_init 47 = .ok (.goto (-22), 3) := by decide +kernel
theorem dX2_init_50 : decode cX2_init 50 = .ok (.return_, 1) := by decide +kernel
theorem dX2_keep_0 : decode cX2_keep 0 = .ok (.aload_n 0, 1) := by decide +kernel
theorem dX2_keep_1 : decode cX2_keep 1 = .ok (.aload_n 0, 1) := by decide +kernel
theorem dX2_keep_2 : decode cX2_keep 2 = .ok (.getfield 21, 3) := by decide +kernel
theorem dX2_keep_5 : decode cX2_keep 5 = .ok (.invokevirtual 25, 3) := by decide +kernel
theorem dX2_keep_8 : decode cX2_keep 8 = .ok (.astore_n 2, 1) := by decide +kernel
theorem dX2_keep_9 : decode cX2_keep 9 = .ok (.aload_n 2, 1) := by decide +kernel
theorem dX2_keep_10 : decode cX2_keep 10 = .ok (.ifnull 8, 3) := by decide +kernel
theorem dX2_keep_13 : decode cX2_keep 13 = .ok (.aload_n 2, 1) := by decide +kernel
theorem dX2_keep_14 : decode cX2_keep 14 = .ok (.aload_n 1, 1) := by decide +kernel
theorem dX2_keep_15 : decode cX2_keep 15 = .ok (.invokevirtual 29, 3) := by decide +kernel
theorem dX2_keep_18 : decode cX2_keep 18 = .ok (.aload_n 0, 1) := by decide +kernel
theorem dX2_keep_19 : decode cX2_keep 19 = .ok (.getfield 21, 3) := by decide +kernel
theorem dX2_keep_22 : decode cX2_keep 22 = .ok (.bipush 6, 2) := by decide +kernel
theorem dX2_keep_24 : decode cX2_keep 24 = .ok (.if_icmp .ge 16, 3) := by decide +kernel
theorem dX2_keep_27 : decode cX2_keep 27 = .ok (.aload_n 0, 1) := by decide +kernel
theorem dX2_keep_28 : decode cX2_keep 28 = .ok (.dup, 1) := by decide +kernel
theorem dX2_keep_29 : decode cX2_keep 29 = .ok (.getfield 21, 3) := by decide +kernel
theorem dX2_keep_32 : decode cX2_keep 32 = .ok (.iconst 1, 1) := by decide +kernel
theorem dX2_keep_33 : decode cX2_keep 33 = .ok (.iadd, 1) := by decide +kernel
theorem dX2_keep_34 : decode cX2_keep 34 = .ok (.putfield 21, 3) := by decide +kernel
theorem dX2_keep_37 : decode cX2_keep 37 = .ok (.goto 18, 3) := by decide +kernel
theorem dX2_keep_40 : decode cX2_keep 40 = .ok (.aload_n 0, 1) := by decide +kernel
theorem dX2_keep_41 : decode cX2_keep 41 = .ok (.aload_n 0, 1) := by decide +kernel
theorem dX2_keep_42 : decode cX2_keep 42 = .ok (.getfield 17, 3) := by decide +kernel
theorem dX2_keep_45 : decode cX2_keep 45 = .ok (.iconst 1, 1) := by decide +kernel
theorem dX2_keep_46 : decode cX2_keep 46 = .ok (.iadd, 1) := by decide +kernel
theorem dX2_keep_47 : decode cX2_keep 47 = .ok (.bipush 6, 2) := by decide +kernel
theorem dX2_keep_49 : decode cX2_keep 49 = .ok (.invokestatic 33, 3) := by decide +kernel
theorem dX2_keep_52 : decode cX2_keep 52 = .ok (.putfield 17, 3) := by decide +kernel
theorem dX2_keep_55 : decode cX2_keep 55 = .ok (.return_, 1) := by decide +kernel
theorem dX2_stateAt_0 : decode cX2_stateAt 0 = .ok (.aload_n 0, 1) := by decide +kernel
theorem dX2_stateAt_1 : decode cX2_stateAt 1 = .ok (.getfield 11, 3) := by decide +kernel
theorem dX2_stateAt_4 : decode cX2_stateAt 4 = .ok (.aload_n 0, 1) := by decide +kernel
theorem dX2_stateAt_5 : decode cX2_stateAt 5 = .ok (.getfield 17, 3) := by decide +kernel
theorem dX2_stateAt_8 : decode cX2_stateAt 8 = .ok (.iload_n 1, 1) := by decide +kernel
theorem dX2_stateAt_9 : decode cX2_stateAt 9 = .ok (.iadd, 1) := by decide +kernel
theorem dX2_stateAt_10 : decode cX2_stateAt 10 = .ok (.bipush 6, 2) := by decide +kernel
theorem dX2_stateAt_12 : decode cX2_stateAt 12 = .ok (.invokestatic 33, 3) := by decide +kernel
theorem dX2_stateAt_15 : decode cX2_stateAt 15 = .ok (.aaload, 1) := by decide +kernel
theorem dX2_stateAt_16 : decode cX2_stateAt 16 = .ok (.areturn, 1) := by decide +kernel
theorem dX3_init_0 : decode cX3_init 0 = .ok (.aload_n 0, 1) := by decide +kernel
theorem dX3_init_1 : decode cX3_init 1 = .ok (.invokespecial 3, 3) := by decide +kernel
theorem dX3_init_4 : decode cX3_init 4 = .ok (.aload_n 0, 1) := by decide +kernel
theorem dX3_init_5 : decode cX3_init 5 = .ok (.iconst 0, 1) := by decide +kernel
theorem dX3_init_6 : decode cX3_init 6 = .ok (.putfield 9, 3) := by decide +kernel
theorem dX3_init_9 : decode cX3_init 9 = .ok (.aload_n 0, 1) := by decide +kernel
theorem dX3_init_10 : decode cX3_init 10 = .ok (.iconst 0, 1) := by decide +kernel
theorem dX3_init_11 : decode cX3_init 11 = .ok (.putfield 15, 3) := by decide +kernel
theorem dX3_init_14 : decode cX3_init 14 = .ok (.aload_n 0, 1) := by decide +kernel
theorem dX3_init_15 : decode cX3_init 15 = .ok (.iconst 0, 1) := by decide +kernel
theorem dX3_init_16 : decode cX3_init 16 = .ok (.putfield 18, 3) := by decide +kernel
theorem dX3_init_19 : decode cX3_init 19 = .ok (.aload_n 0, 1) := by decide +kernel
theorem dX3_init_20 : decode cX3_init 20 = .ok (.iconst 0, 1) := by decide +kernel
theorem dX3_init_21 : decode cX3_init 21 = .ok (.putfield 21, 3) := by decide +kernel
theorem dX3_init_24 : decode cX3_init 24 = .ok (.aload_n 0, 1) := by decide +kernel
theorem dX3_init_25 : decode cX3_init 25 = .ok (.bipush 20, 2) := by decide +kernel
theorem dX3_init_27 : decode cX3_init 27 = .ok (.newarray .int, 2) := by decide +kernel
theorem dX3_init_29 : decode cX3_init 29 = .ok (.putfield 24, 3) := by decide +kernel
theorem dX3_init_32 : decode cX3_init 32 = .ok (.return_, 1) := by decide +kernel
theorem dX3_copyFrom_0 : decode cX3_copyFrom 0 = .ok (.aload_n 0, 1) := by decide +kernel
theorem dX3_copyFrom_1 : decode cX3_copyFrom 1 = .ok (.aload_n 1, 1) := by decide +kernel
theorem dX3_copyFrom_2 : decode cX3_copyFrom 2 = .ok (.getfield 9, 3) := by decide +kernel
theorem dX3_copyFrom_5 : decode cX3_copyFrom 5 = .ok (.putfield 9, 3) := by decide +kernel
theorem dX3_copyFrom_8 : decode cX3_copyFrom 8 = .ok (.aload_n 0, 1) := by decide +kernel
theorem dX3_copyFrom_9 : decode cX3_copyFrom 9 = .ok (.aload_n 1, 1) := by decide +kernel
theorem dX3_copyFrom_10 : decode cX3_copyFrom 10 = .ok (.getfield 15, 3) := by decide +kernel
theorem dX3_copyFrom_13 : decode cX3_copyFrom 13 = .ok (.putfield 15, 3) := by decide +kernel
theorem dX3_copyFrom_16 : decode cX3_copyFrom 16 = .ok (.aload_n 0, 1) := by decide +kernel
theorem dX3_copyFrom_17 : decode cX3_copyFrom 17 = .ok (.aload_n 1, 1) := by decide +kernel
theorem dX3_copyFrom_18 : decode cX3_copyFrom 18 = .ok (.getfield 18, 3) := by decide +kernel
theorem dX3_copyFrom_21 : decode cX3_copyFrom 21 = .ok (.putfield 18, 3) := by decide +kernel
theorem dX3_copyFrom_24 : decode cX3_copyFrom 24 = .ok (.aload_n 0, 1) := by decide +kernel
theorem dX3_copyFrom_25 : decode cX3_copyFrom 25 = .ok (.aload_n 1, 1) := by decide +kernel
theorem dX3_copyFrom_26 : decode cX3_copyFrom 26 = .ok (.getfield 21, 3) := by decide +kernel
theorem dX3_copyFrom_29 : decode cX3_copyFrom 29 = .ok (.putfield 21, 3) := by decide +kernel
theorem dX3_copyFrom_32 : decode cX3_copyFrom 32 = .ok (.aload_n 1, 1) := by decide +kernel
theorem dX3_copyFrom_33 : decode cX3_copyFrom 33 = .ok (.getfield 24, 3) := by decide +kernel
theorem dX3_copyFrom_36 : decode cX3_copyFrom 36 = .ok (.aload_n 0, 1) := by decide +kernel
theorem dX3_copyFrom_37 : decode cX3_copyFrom 37 = .ok (.getfield 24, 3) := by decide +kernel
theorem dX3_copyFrom_40 : decode cX3_copyFrom 40 = .ok (.invokestatic 28, 3) := by decide +kernel
theorem dX3_copyFrom_43 : decode cX3_copyFrom 43 = .ok (.return_, 1) := by decide +kernel
theorem dX3_renew_0 : decode cX3_renew 0 = .ok (.aload_n 0, 1) := by decide +kernel
theorem dX3_renew_1 : decode cX3_renew 1 = .ok (.iconst 0, 1) := by decide +kernel
theorem dX3_renew_2 : decode cX3_renew 2 = .ok (.putfield 9, 3) := by decide +kernel
theorem dX3_renew_5 : decode cX3_renew 5 = .ok (.aload_n 0, 1) := by decide +kernel
theorem dX3_renew_6 : decode cX3_renew 6 = .ok (.iconst 0, 1) := by decide +kernel
theorem dX3_renew_7 : decode cX3_renew 7 = .ok (.putfield 15, 3) := by decide +kernel
theorem dX3_renew_10 : decode cX3_renew 10 = .ok (.aload_n 0, 1) := by decide +kernel
theorem dX3_renew_11 : decode cX3_renew 11 = .ok (.iconst 0, 1) := by decide +kernel
theorem dX3_renew_12 : decode cX3_renew 12 = .ok (.putfield 18, 3) := by decide +kernel
theorem dX3_renew_15 : decode cX3_renew 15 = .ok (.aload_n 0, 1) := by decide +kernel
theorem dX3_renew_16 : decode cX3_renew 16 = .ok (.iconst 0, 1) := by decide +kernel
theorem dX3_renew_17 : decode cX3_renew 17 = .ok (.putfield 21, 3) := by decide +kernel
theorem dX3_renew_20 : decode cX3_renew 20 = .ok (.aload_n 0, 1) := by decide +kernel
theorem dX3_renew_21 : decode cX3_renew 21 = .ok (.getfield 24, 3) := by decide +kernel
theorem dX3_renew_24 : decode cX3_renew 24 = .ok (.iconst 0, 1) := by decide +kernel
theorem dX3_renew_25 : decode cX3_renew 25 = .ok (.invokestatic 32, 3) := by decide +kernel
theorem dX3_renew_28 : decode cX3_renew 28 = .ok (.return_, 1) := by decide +kernel
theorem dX3_addSecond_0 : decode cX3_addSecond 0 = .ok (.aload_n 0, 1) := by decide +kernel
theorem dX3_addSecond_1 : decode cX3_addSecond 1 = .ok (.getfield 24, 3) := by decide +kernel
theorem dX3_addSecond_4 : decode cX3_addSecond 4 = .ok (.aload_n 0, 1) := by decide +kernel
theorem dX3_addSecond_5 : decode cX3_addSecond 5 = .ok (.getfield 21, 3) := by decide +kernel
theorem dX3_addSecond_8 : decode cX3_addSecond 8 = .ok (.bipush 20, 2) := by decide +kernel
theorem dX3_addSecond_10 : decode cX3_addSecond 10 = .ok (.invokestatic 38, 3) := by decide +kernel
theorem dX3_addSecond_13 : decode cX3_addSecond 13 = .ok (.iload_n 1, 1) := by decide +kernel
theorem dX3_addSecond_14 : decode cX3_addSecond 14 = .ok (.iastore, 1) := by decide +kernel
theorem dX3_addSecond_15 : decode cX3_addSecond 15 = .ok (.aload_n 0, 1) := by decide +kernel
theorem dX3_addSecond_16 : decode cX3_addSecond 16 = .ok (.dup, 1) := by decide +kernel
theorem dX3_addSecond_17 : decode cX3_addSecond 17 = .ok (.getfield 21, 3) := by decide +kernel
theorem dX3_addSecond_20 : decode cX3_addSecond 20 = .ok (.iconst 1, 1) := by decide +kernel
theorem dX3_addSecond_21 : decode cX3_addSecond 21 = .ok (.iadd, 1) := by decide +kernel
theorem dX3_addSecond_22 : decode cX3_addSecond 22 = .ok (.putfield 21, 3) := by decide +kernel
theorem dX3_addSecond_25 : decode cX3_addSecond 25 = .ok (.aload_n 0, 1) := by decide +kernel
theorem dX3_addSecond_26 : decode cX3_addSecond 26 = .ok (.dup, 1) := by decide +kernel
theorem dX3_addSecond_27 : decode cX3_addSecond 27 = .ok (.getfield 18, 3) := by decide +kernel
theorem dX3_addSecond_30 : decode cX3_addSecond 30 = .ok (.iload_n 1, 1) := by decide +kernel
theorem dX3_addSecond_31 : decode cX3_addSecond 31 = .ok (.iadd, 1) := by decide +kernel
theorem dX3_addSecond_32 : decode cX3_addSecond 32 = .ok (.putfield 18, 3) := by decide +kernel
theorem dX3_addSecond_35 : decode cX3_addSecond 35 = .ok (.return_, 1) := by decide +kernel
theorem dX3_powerOf_0 : decode cX3_powerOf 0 = .ok (.aload_n 0, 1) := by decide +kernel
theorem dX3_powerOf_1 : decode cX3_powerOf 1 = .ok (.getfield 24, 3) := by decide +kernel
theorem dX3_powerOf_4 : decode cX3_powerOf 4 = .ok (.aload_n 0, 1) := by decide +kernel
theorem dX3_powerOf_5 : decode cX3_powerOf 5 = .ok (.getfield 21, 3) := by decide +kernel
theorem dX3_powerOf_8 : decode cX3_powerOf 8 = .ok (.iload_n 1, 1) := by decide +kernel
theorem dX3_powerOf_9 : decode cX3_powerOf 9 = .ok (.isub, 1) := by decide +kernel
theorem dX3_powerOf_10 : decode cX3_powerOf 10 = .ok (.bipush 20, 2) := by decide +kernel
theorem dX3_powerOf_12 : decode cX3_powerOf 12 = .ok (.invokestatic 38, 3) := by decide +kernel
theorem dX3_powerOf_15 : decode cX3_powerOf 15 = .ok (.iaload, 1) := by decide +kernel
theorem dX3_powerOf_16 : decode cX3_powerOf 16 = .ok (.ireturn, 1) := by decide +kernel
theorem dX4_init_0 : decode cX4_init 0 = .ok (.aload_n 0, 1) := by decide +kernel
theorem dX4_init_1 : decode cX4_init 1 = .ok (.invokespecial 3, 3) := by decide +kernel
theorem dX4_init_4 : decode cX4_init 4 = .ok (.aload_n 0, 1) := by decide +kernel
theorem dX4_init_5 : decode cX4_init 5 = .ok (.bipush 6, 2) := by decide +kernel
theorem dX4_init_7 : decode cX4_init 7 = .ok (.newarray .int, 2) := by decide +kernel
theorem dX4_init_9 : decode cX4_init 9 = .ok (.putfield 11, 3) := by decide +kernel
theorem dX4_init_12 : decode cX4_init 12 = .ok (.aload_n 0, 1) := by decide +kernel
theorem dX4_init_13 : decode cX4_init 13 = .ok (.bipush 6, 2) := by decide +kernel
theorem dX4_init_15 : decode cX4_init 15 = .ok (.bipush 40, 2) := by decide +kernel
theorem dX4_init_17 : decode cX4_init 17 = .ok (.multianewarray 15 2, 4) := by decide +kernel
theorem dX4_init_21 : decode cX4_init 21 = .ok (.putfield 17, 3) := by decide +kernel
theorem dX4_init_24 : decode cX4_init 24 = .ok (.aload_n 0, 1) := by decide +kernel
theorem dX4_init_25 : decode cX4_init 25 = .ok (.bipush 6, 2) := by decide +kernel
theorem dX4_init_27 : decode cX4_init 27 = .ok (.bipush 6, 2) := by decide +kernel
theorem dX4_init_29 : decode cX4_init 29 = .ok (.multianewarray 15 2, 4) := by decide +kernel
theorem dX4_init_33 : decode cX4_init 33 = .ok (.putfield 20, 3) := by decide +kernel
theorem dX4_init_36 : decode cX4_init 36 = .ok (.aload_n 0, 1) := by decide +kernel
theorem dX4_init_37 : decode cX4_init 37 = .ok (.bipush 32, 2) := by decide +kernel
theorem dX4_init_39 : decode cX4_init 39 = .ok (.bipush 6, 2) := by decide +kernel
theorem dX4_init_41 : decode cX4_init 41 = .ok (.multianewarray 15 2, 4) := by decide +kernel
theorem dX4_init_45 : decode cX4_init 45 = .ok (.putfield 23, 3) := by decide +kernel
theorem dX4_init_48 : decode cX4_init 48 = .ok (.aload_n 0, 1) := by decide +kernel
theorem dX4_init_49 : decode cX4_init 49 = .ok (.iconst 0, 1) := by decide +kernel
theorem dX4_init_50 : decode cX4_init 50 = .ok (.putfield 26, 3) := by decide +kernel
theorem dX4_init_53 : decode cX4_init 53 = .ok (.return_, 1) := by decide +kernel
theorem dX5_init_0 : decode cX5_init 0 = .ok (.aload_n 0, 1) := by decide +kernel
theorem dX5_init_1 : decode cX5_init 1 = .ok (.invokespecial 3, 3) := by decide +kernel
theorem dX5_init_4 : decode cX5_init 4 = .ok (.aload_n 0, 1) := by decide +kernel
theorem dX5_init_5 : decode cX5_init 5 = .ok (.bipush 40, 2) := by decide +kernel
theorem dX5_init_7 : decode cX5_init 7 = .ok (.newarray .int, 2) := by decide +kernel
theorem dX5_init_9 : decode cX5_init 9 = .ok (.putfield 9, 3) := by decide +kernel
theorem dX5_init_12 : decode cX5_init 12 = .ok (.aload_n 0, 1) := by decide +kernel
theorem dX5_init_13 : decode cX5_init 13 = .ok (.bipush 40, 2) := by decide +kernel
theorem dX5_init_15 : decode cX5_init 15 = .ok (.newarray .int, 2) := by decide +kernel
theorem dX5_init_17 : decode cX5_init 17 = .ok (.putfield 15, 3) := by decide +kernel
theorem dX5_init_20 : decode cX5_init 20 = .ok (.return_, 1) := by decide +kernel
theorem dX5_draw_0 : decode cX5_draw 0 = .ok (.aload_n 1, 1) := by decide +kernel
theorem dX5_draw_1 : decode cX5_draw 1 = .ok (.getfield 18, 3) := by decide +kernel
theorem dX5_draw_4 : decode cX5_draw 4 = .ok (.getfield 24, 3) := by decide +kernel
theorem dX5_draw_7 : decode cX5_draw 7 = .ok (.istore 5, 2) := by decide +kernel
theorem dX5_draw_9 : decode cX5_draw 9 = .ok (.aload_n 1, 1) := by decide +kernel
theorem dX5_draw_10 : decode cX5_draw 10 = .ok (.getfield 30, 3) := by decide +kernel
theorem dX5_draw_13 : decode cX5_draw 13 = .ok (.iload_n 2, 1) := by decide +kernel
theorem dX5_draw_14 : decode cX5_draw 14 = .ok (.invokevirtual 34, 3) := by decide +kernel
theorem dX5_draw_17 : decode cX5_draw 17 = .ok (.istore 6, 2) := by decide +kernel
theorem dX5_draw_19 : decode cX5_draw 19 = .ok (.iload 6, 2) := by decide +kernel
theorem dX5_draw_21 : decode cX5_draw 21 = .ok (.iload 5, 2) := by decide +kernel
theorem dX5_draw_23 : decode cX5_draw 23 = .ok (.if_icmp .gt 15, 3) := by decide +kernel
theorem dX5_draw_26 : decode cX5_draw 26 = .ok (.iload 5, 2) := by decide +kernel
theorem dX5_draw_28 : decode cX5_draw 28 = .ok (.iload 6, 2) := by decide +kernel
theorem dX5_draw_30 : decode cX5_draw 30 = .ok (.isub, 1) := by decide +kernel
theorem dX5_draw_31 : decode cX5_draw 31 = .ok (.iconst 2, 1) := by decide +kernel
theorem dX5_draw_32 : decode cX5_draw 32 = .ok (.idiv, 1) := by decide +kernel
theorem dX5_draw_33 : decode cX5_draw 33 = .ok (.iload_n 3, 1) := by decide +kernel
theorem dX5_draw_34 : decode cX5_draw 34 = .ok (.iadd, 1) := by decide +kernel
theorem dX5_draw_35 : decode cX5_draw 35 = .ok (.goto 4, 3) := by decide +kernel
theorem dX5_draw_38 : decode cX5_draw 38 = .ok (.iload_n 3, 1) := by decide +kernel
theorem dX5_draw_39 : decode cX5_draw 39 = .ok (.istore 7, 2) := by decide +kernel
theorem dX5_draw_41 : decode cX5_draw 41 = .ok (.iconst 0, 1) := by decide +kernel
theorem dX5_draw_42 : decode cX5_draw 42 = .ok (.istore 8, 2) := by decide +kernel
theorem dX5_draw_44 : decode cX5_draw 44 = .ok (.iload 8, 2) := by decide +kernel
theorem dX5_draw_46 : decode cX5_draw 46 = .ok (.aload 4, 2) := by decide +kernel
theorem dX5_draw_48 : decode cX5_draw 48 = .ok (.arraylength, 1) := by decide +kernel
theorem dX5_draw_49 : decode cX5_draw 49 = .ok (.if_icmp .ge 38, 3) := by decide +kernel
theorem dX5_draw_52 : decode cX5_draw 52 = .ok (.aload 4, 2) := by decide +kernel
theorem dX5_draw_54 : decode cX5_draw 54 = .ok (.iload 8, 2) := by decide +kernel
theorem dX5_draw_56 : decode cX5_draw 56 = .ok (.iload 8, 2) := by decide +kernel
theorem dX5_draw_58 : decode cX5_draw 58 = .ok (.iload 5, 2) := by decide +kernel
theorem dX5_draw_60 : decode cX5_draw 60 = .ok (.if_icmp .ge 19, 3) := by decide +kernel
theorem dX5_draw_63 : decode cX5_draw 63 = .ok (.aload_n 1, 1) := by decide +kernel
theorem dX5_draw_64 : decode cX5_draw 64 = .ok (.getfield 30, 3) := by decide +kernel
theorem dX5_draw_67 : decode cX5_draw 67 = .ok (.iload_n 2, 1) := by decide +kernel
theorem dX5_draw_68 : decode cX5_draw 68 = .ok (.iload 8, 2) := by decide +kernel
theorem dX5_draw_70 : decode cX5_draw 70 = .ok (.iload 7, 2) := by decide +kernel
theorem dX5_draw_72 : decode cX5_draw 72 = .ok (.isub, 1) := by decide +kernel
theorem dX5_draw_73 : decode cX5_draw 73 = .ok (.invokevirtual 40, 3) := by decide +kernel
theorem dX5_draw_76 : decode cX5_draw 76 = .ok (.goto 4, 3) := by decide +kernel
theorem dX5_draw_79 : decode cX5_draw 79 = .ok (.iconst 0, 1) := by decide +kernel
theorem dX5_draw_80 : decode cX5_draw 80 = .ok (.iastore, 1) := by decide +kernel
theorem dX5_draw_81 : decode cX5_draw 81 = .ok (.iinc 8 1, 3) := by decide +kernel
theorem dX5_draw_84 : decode cX5_draw 84 = .ok (.goto (-40), 3) := by decide +kernel
theorem dX5_draw_87 : decode cX5_draw 87 = .ok (.return_, 1) := by decide +kernel
theorem dX5_drawAs_0 : decode cX5_drawAs 0 = .ok (.iload_n 3, 1) := by decide +kernel
theorem dX5_drawAs_1 : decode cX5_drawAs 1 = .ok (.iconst 1, 1) := by decide +kernel
theorem dX5_drawAs_2 : decode cX5_drawAs 2 = .ok (.if_icmp .ne 12, 3) := by decide +kernel
theorem dX5_drawAs_5 : decode cX5_drawAs 5 = .ok (.aload_n 0, 1) := by decide +kernel
theorem dX5_drawAs_6 : decode cX5_drawAs 6 = .ok (.aload_n 1, 1) := by decide +kernel
theorem dX5_drawAs_7 : decode cX5_drawAs 7 = .ok (.iload_n 2, 1) := by decide +kernel
theorem dX5_drawAs_8 : decode cX5_drawAs 8 = .ok (.invokevirtual 44, 3) := by decide +kernel
theorem dX5_drawAs_11 : decode cX5_drawAs 11 = .ok (.goto 4, 3) := by decide +kernel
theorem dX5_drawAs_14 : decode cX5_drawAs 14 = .ok (.iconst 0, 1) := by decide +kernel
theorem dX5_drawAs_15 : decode cX5_drawAs 15 = .ok (.istore 4, 2) := by decide +kernel
theorem dX5_drawAs_17 : decode cX5_drawAs 17 = .ok (.aload_n 0, 1) := by decide +kernel
theorem dX5_drawAs_18 : decode cX5_drawAs 18 = .ok (.aload_n 1, 1) := by decide +kernel
theorem dX5_drawAs_19 : decode cX5_drawAs 19 = .ok (.iload_n 2, 1) := by decide +kernel
theorem dX5_drawAs_20 : decode cX5_drawAs 20 = .ok (.iload 4, 2) := by decide +kernel
theorem dX5_drawAs_22 : decode cX5_drawAs 22 = .ok (.aload_n 0, 1) := by decide +kernel
theorem dX5_drawAs_23 : decode cX5_drawAs 23 = .ok (.getfield 9, 3) := by decide +kernel
theorem dX5_drawAs_26 : decode cX5_drawAs 26 = .ok (.invokevirtual 48, 3) := by decide +kernel
theorem dX5_drawAs_29 : decode cX5_drawAs 29 = .ok (.return_, 1) := by decide +kernel
theorem dX5_bestShiftOf_0 : decode cX5_bestShiftOf 0 = .ok (.iconst 0, 1) := by decide +kernel
theorem dX5_bestShiftOf_1 : decode cX5_bestShiftOf 1 = .ok (.istore_n 3, 1) := by decide +kernel
theorem dX5_bestShiftOf_2 : decode cX5_bestShiftOf 2 = .ok (.ldc 54, 2) := by decide +kernel
theorem dX5_bestShiftOf_4 : decode cX5_bestShiftOf 4 = .ok (.istore 4, 2) := by decide +kernel
theorem dX5_bestShiftOf_6 : decode cX5_bestShiftOf 6 = .ok (.ldc 54, 2) := by decide +kernel
theorem dX5_bestShiftOf_8 : decode cX5_bestShiftOf 8 = .ok (.istore 5, 2) := by decide +kernel
theorem dX5_bestShiftOf_10 : decode cX5_bestShiftOf 10 = .ok (.getstatic 55, 3) := by decide +kernel
theorem dX5_bestShiftOf_13 : decode cX5_bestShiftOf 13 = .ok (.astore 6, 2) := by decide +kernel
theorem dX5_bestShiftOf_15 : decode cX5_bestShiftOf 15 = .ok (.aload 6, 2) := by decide +kernel
theorem dX5_bestShiftOf_17 : decode cX5_bestShiftOf 17 = .ok (.arraylength, 1) := by decide +kernel
theorem dX5_bestShiftOf_18 : decode cX5_bestShiftOf 18 = .ok (.istore 7, 2) := by decide +kernel
theorem dX5_bestShiftOf_20 : decode cX5_bestShiftOf 20 = .ok (.iconst 0, 1) := by decide +kernel
theorem dX5_bestShiftOf_21 : decode cX5_bestShiftOf 21 = .ok (.istore 8, 2) := by decide +kernel
theorem dX5_bestShiftOf_23 : decode cX5_bestShiftOf 23 = .ok (.iload 8, 2) := by decide +kernel
theorem dX5_bestShiftOf_25 : decode cX5_bestShiftOf 25 = .ok (.iload 7, 2) := by decide +kernel
theorem dX5_bestShiftOf_27 : decode cX5_bestShiftOf 27 = .ok (.if_icmp .ge 93, 3) := by decide +kernel
theorem dX5_bestShiftOf_30 : decode cX5_bestShiftOf 30 = .ok (.aload 6, 2) := by decide +kernel
theorem dX5_bestShiftOf_32 : decode cX5_bestShiftOf 32 = .ok (.iload 8, 2) := by decide +kernel
theorem dX5_bestShiftOf_34 : decode cX5_bestShiftOf 34 = .ok (.iaload, 1) := by decide +kernel
theorem dX5_bestShiftOf_35 : decode cX5_bestShiftOf 35 = .ok (.istore 9, 2) := by decide +kernel
theorem dX5_bestShiftOf_37 : decode cX5_bestShiftOf 37 = .ok (.aload_n 0, 1) := by decide +kernel
theorem dX5_bestShiftOf_38 : decode cX5_bestShiftOf 38 = .ok (.aload_n 1, 1) := by decide +kernel
theorem dX5_bestShiftOf_39 : decode cX5_bestShiftOf 39 = .ok (.iload_n 2, 1) := by decide +kernel
theorem dX5_bestShiftOf_40 : decode cX5_bestShiftOf 40 = .ok (.iload 9, 2) := by decide +kernel
theorem dX5_bestShiftOf_42 : decode cX5_bestShiftOf 42 = .ok (.aload_n 0, 1) := by decide +kernel
theorem dX5_bestShiftOf_43 : decode cX5_bestShiftOf 43 = .ok (.getfield 9, 3) := by decide +kernel
theorem dX5_bestShiftOf_46 : decode cX5_bestShiftOf 46 = .ok (.invokevirtual 48, 3) := by decide +kernel
theorem dX5_bestShiftOf_49 : decode cX5_bestShiftOf 49 = .ok (.aload_n 1, 1) := by decide +kernel
theorem dX5_bestShiftOf_50 : decode cX5_bestShiftOf 50 = .ok (.getfield 18, 3) := by decide +kernel
theorem dX5_bestShiftOf_53 : decode cX5_bestShiftOf 53 = .ok (.aload_n 0, 1) := by decide +kernel
theorem dX5_bestShiftOf_54 : decode cX5_bestShiftOf 54 = .ok (.getfield 9, 3) := by decide +kernel
theorem dX5_bestShiftOf_57 : decode cX5_bestShiftOf 57 = .ok (.invokevirtual 58, 3) := by decide +kernel
theorem dX5_bestShiftOf_60 : decode cX5_bestShiftOf 60 = .ok (.istore 10, 2) := by decide +kernel
theorem dX5_bestShiftOf_62 : decode cX5_bestShiftOf 62 = .ok (.aload_n 1, 1) := by decide +kernel
theorem dX5_bestShiftOf_63 : decode cX5_bestShiftOf 63 = .ok (.getfield 18, 3) := by decide +kernel
theorem dX5_bestShiftOf_66 : decode cX5_bestShiftOf 66 = .ok (.aload_n 0, 1) := by decide +kernel
theorem dX5_bestShiftOf_67 : decode cX5_bestShiftOf 67 = .ok (.getfield 9, 3) := by decide +kernel
theorem dX5_bestShiftOf_70 : decode cX5_bestShiftOf 70 = .ok (.aload_n 1, 1) := by decide +kernel
theorem dX5_bestShiftOf_71 : decode cX5_bestShiftOf 71 = .ok (.getfield 18, 3) := by decide +kernel
theorem dX5_bestShiftOf_74 : decode cX5_bestShiftOf 74 = .ok (.getfield 62, 3) := by decide +kernel
theorem dX5_bestShiftOf_77 : decode cX5_bestShiftOf 77 = .ok (.invokevirtual 65, 3) := by decide +kernel
theorem dX5_bestShiftOf_80 : decode cX5_bestShiftOf 80 = .ok (.istore 11, 2) := by decide +kernel
theorem dX5_bestShiftOf_82 : decode cX5_bestShiftOf 82 = .ok (.iload 10, 2) := by decide +kernel
theorem dX5_bestShiftOf_84 : decode cX5_bestShiftOf 84 = .ok (.iload 4, 2) := by decide +kernel
theorem dX5_bestShiftOf_86 : decode cX5_bestShiftOf 86 = .ok (.if_icmp .lt 17, 3) := by decide +kernel
theorem dX5_bestShiftOf_89 : decode cX5_bestShiftOf 89 = .ok (.iload 10, 2) := by decide +kernel
theorem dX5_bestShiftOf_91 : decode cX5_bestShiftOf 91 = .ok (.iload 4, 2) := by decide +kernel
theorem dX5_bestShiftOf_93 : decode cX5_bestShiftOf 93 = .ok (.if_icmp .ne 21, 3) := by decide +kernel
theorem dX5_bestShiftOf_96 : decode cX5_bestShiftOf 96 = .ok (.iload 11, 2) := by decide +kernel
theorem dX5_bestShiftOf_98 : decode cX5_bestShiftOf 98 = .ok (.iload 5, 2) := by decide +kernel
theorem dX5_bestShiftOf_100 : decode cX5_bestShiftOf 100 = .ok (.if_icmp .ge 14, 3) := by decide +kernel
theorem dX5_bestShiftOf_103 : decode cX5_bestShiftOf 103 = .ok (.iload 9, 2) := by decide +kernel
theorem dX5_bestShiftOf_105 : decode cX5_bestShiftOf 105 = .ok (.istore_n 3, 1) := by decide +kernel
theorem dX5_bestShiftOf_106 : decode cX5_bestShiftOf 106 = .ok (.iload 10, 2) := by decide +kernel
theorem dX5_bestShiftOf_108 : decode cX5_bestShiftOf 108 = .ok (.istore 4, 2) := by decide +kernel
theorem dX5_bestShiftOf_110 : decode cX5_bestShiftOf 110 = .ok (.iload 11, 2) := by decide +kernel
theorem dX5_bestShiftOf_112 : decode cX5_bestShiftOf 112 = .ok (.istore 5, 2) := by decide +kernel
theorem dX5_bestShiftOf_114 : decode cX5_bestShiftOf 114 = .ok (.iinc 8 1, 3) := by decide +kernel
theorem dX5_bestShiftOf_117 : decode cX5_bestShiftOf 117 = .ok (.goto (-94), 3) := by decide +kernel
theorem dX5_bestShiftOf_120 : decode cX5_bestShiftOf 120 = .ok (.iload_n 3, 1) := by decide +kernel
theorem dX5_bestShiftOf_121 : decode cX5_bestShiftOf 121 = .ok (.ireturn, 1) := by decide +kernel
theorem dX6_init_0 : decode cX6_init 0 = .ok (.aload_n 0, 1) := by decide +kernel
theorem dX6_init_1 : decode cX6_init 1 = .ok (.invokespecial 3, 3) := by decide +kernel
theorem dX6_init_4 : decode cX6_init 4 = .ok (.aload_n 0, 1) := by decide +kernel
theorem dX6_init_5 : decode cX6_init 5 = .ok (.new 9, 3) := by decide +kernel
theorem dX6_init_8 : decode cX6_init 8 = .ok (.dup, 1) := by decide +kernel
theorem dX6_init_9 : decode cX6_init 9 = .ok (.invokespecial 11, 3) := by decide +kernel
theorem dX6_init_12 : decode cX6_init 12 = .ok (.putfield 12, 3) := by decide +kernel
theorem dX6_init_15 : decode cX6_init 15 = .ok (.aload_n 0, 1) := by decide +kernel
theorem dX6_init_16 : decode cX6_init 16 = .ok (.iconst 0, 1) := by decide +kernel
theorem dX6_init_17 : decode cX6_init 17 = .ok (.putfield 18, 3) := by decide +kernel
theorem dX6_init_20 : decode cX6_init 20 = .ok (.aload_n 0, 1) := by decide +kernel
theorem dX6_init_21 : decode cX6_init 21 = .ok (.iconst 0, 1) := by decide +kernel
theorem dX6_init_22 : decode cX6_init 22 = .ok (.putfield 22, 3) := by decide +kernel
theorem dX6_init_25 : decode cX6_init 25 = .ok (.aload_n 0, 1) := by decide +kernel
theorem dX6_init_26 : decode cX6_init 26 = .ok (.iconst 0, 1) := by decide +kernel
theorem dX6_init_27 : decode cX6_init 27 = .ok (.putfield 25, 3) := by decide +kernel
theorem dX6_init_30 : decode cX6_init 30 = .ok (.aload_n 0, 1) := by decide +kernel
theorem dX6_init_31 : decode cX6_init 31 = .ok (.iconst 0, 1) := by decide +kernel
theorem dX6_init_32 : decode cX6_init 32 = .ok (.putfield 28, 3) := by decide +kernel
theorem dX6_init_35 : decode cX6_init 35 = .ok (.return_, 1) := by decide +kernel
theorem dX7_init_0 : decode cX7_init 0 = .ok (.aload_n 0, 1) := by decide +kernel
theorem dX7_init_1 : decode cX7_init 1 = .ok (.invokespecial 3, 3) := by decide +kernel
theorem dX7_init_4 : decode cX7_init 4 = .ok (.aload_n 0, 1) := by decide +kernel
theorem dX7_init_5 : decode cX7_init 5 = .ok (.sipush 130, 3) := by decide +kernel
theorem dX7_init_8 : decode cX7_init 8 = .ok (.newarray .int, 2) := by decide +kernel
theorem dX7_init_10 : decode cX7_init 10 = .ok (.putfield 9, 3) := by decide +kernel
theorem dX7_init_13 : decode cX7_init 13 = .ok (.aload_n 0, 1) := by decide +kernel
theorem dX7_init_14 : decode cX7_init 14 = .ok (.bipush 26, 2) := by decide +kernel
theorem dX7_init_16 : decode cX7_init 16 = .ok (.newarray .int, 2) := by decide +kernel
theorem dX7_init_18 : decode cX7_init 18 = .ok (.putfield 15, 3) := by decide +kernel
theorem dX7_init_21 : decode cX7_init 21 = .ok (.aload_n 0, 1) := by decide +kernel
theorem dX7_init_22 : decode cX7_init 22 = .ok (.bipush 96, 2) := by decide +kernel
theorem dX7_init_24 : decode cX7_init 24 = .ok (.newarray .int, 2) := by decide +kernel
theorem dX7_init_26 : decode cX7_init 26 = .ok (.putfield 18, 3) := by decide +kernel
theorem dX7_init_29 : decode cX7_init 29 = .ok (.aload_n 0, 1) := by decide +kernel
theorem dX7_init_30 : decode cX7_init 30 = .ok (.bipush 8, 2) := by decide +kernel
theorem dX7_init_32 : decode cX7_init 32 = .ok (.newarray .int, 2) := by decide +kernel
theorem dX7_init_34 : decode cX7_init 34 = .ok (.putfield 21, 3) := by decide +kernel
theorem dX7_init_37 : decode cX7_init 37 = .ok (.aload_n 0, 1) := by decide +kernel
theorem dX7_init_38 : decode cX7_init 38 = .ok (.iconst 0, 1) := by decide +kernel
theorem dX7_init_39 : decode cX7_init 39 = .ok (.putfield 24, 3) := by decide +kernel
theorem dX7_init_42 : decode cX7_init 42 = .ok (.return_, 1) := by decide +kernel
theorem dX7_copyFrom_0 : decode cX7_copyFrom 0 = .ok (.aload_n 1, 1) := by decide +kernel
theorem dX7_copyFrom_1 : decode cX7_copyFrom 1 = .ok (.getfield 9, 3) := by decide +kernel
theorem dX7_copyFrom_4 : decode cX7_copyFrom 4 = .ok (.aload_n 0, 1) := by decide +kernel
theorem dX7_copyFrom_5 : decode cX7_copyFrom 5 = .ok (.getfield 9, 3) := by decide +kernel
theorem dX7_copyFrom_8 : decode cX7_copyFrom 8 = .ok (.invokestatic 28, 3) := by decide +kernel
theorem dX7_copyFrom_11 : decode cX7_copyFrom 11 = .ok (.aload_n 1, 1) := by decide +kernel
theorem dX7_copyFrom_12 : decode cX7_copyFrom 12 = .ok (.getfield 15, 3) := by decide +kernel
theorem dX7_copyFrom_15 : decode cX7_copyFrom 15 = .ok (.aload_n 0, 1) := by decide +kernel
theorem dX7_copyFrom_16 : decode cX7_copyFrom 16 = .ok (.getfield 15, 3) := by decide +kernel
theorem dX7_copyFrom_19 : decode cX7_copyFrom 19 = .ok (.invokestatic 28, 3) := by decide +kernel
theorem dX7_copyFrom_22 : decode cX7_copyFrom 22 = .ok (.aload_n 1, 1) := by decide +kernel
theorem dX7_copyFrom_23 : decode cX7_copyFrom 23 = .ok (.getfield 18, 3) := by decide +kernel
theorem dX7_copyFrom_26 : decode cX7_copyFrom 26 = .ok (.aload_n 0, 1) := by decide +kernel
theorem dX7_copyFrom_27 : decode cX7_copyFrom 27 = .ok (.getfield 18, 3) := by decide +kernel
theorem dX7_copyFrom_30 : decode cX7_copyFrom 30 = .ok (.invokestatic 28, 3) := by decide +kernel
theorem dX7_copyFrom_33 : decode cX7_copyFrom 33 = .ok (.aload_n 1, 1) := by decide +kernel
theorem dX7_copyFrom_34 : decode cX7_copyFrom 34 = .ok (.getfield 21, 3) := by decide +kernel
theorem dX7_copyFrom_37 : decode cX7_copyFrom 37 = .ok (.aload_n 0, 1) := by decide +kernel
theorem dX7_copyFrom_38 : decode cX7_copyFrom 38 = .ok (.getfield 21, 3) := by decide +kernel
theorem dX7_copyFrom_41 : decode cX7_copyFrom 41 = .ok (.invokestatic 28, 3) := by decide +kernel
theorem dX7_copyFrom_44 : decode cX7_copyFrom 44 = .ok (.aload_n 0, 1) := by decide +kernel
theorem dX7_copyFrom_45 : decode cX7_copyFrom 45 = .ok (.aload_n 1, 1) := by decide +kernel
theorem dX7_copyFrom_46 : decode cX7_copyFrom 46 = .ok (.getfield 24, 3) := by decide +kernel
theorem dX7_copyFrom_49 : decode cX7_copyFrom 49 = .ok (.putfield 24, 3) := by decide +kernel
theorem dX7_copyFrom_52 : decode cX7_copyFrom 52 = .ok (.return_, 1) := by decide +kernel
theorem dX7_widthOf_0 : decode cX7_widthOf 0 = .ok (.iload_n 1, 1) := by decide +kernel
theorem dX7_widthOf_1 : decode cX7_widthOf 1 = .ok (.bipush 26, 2) := by decide +kernel
theorem dX7_widthOf_3 : decode cX7_widthOf 3 = .ok (.if_icmp .ne 5, 3) := by decide +kernel
theorem dX7_widthOf_6 : decode cX7_widthOf 6 = .ok (.iconst 2, 1) := by decide +kernel
theorem dX7_widthOf_7 : decode cX7_widthOf 7 = .ok (.ireturn, 1) := by decide +kernel
theorem dX7_widthOf_8 : decode cX7_widthOf 8 = .ok (.aload_n 0, 1) := by decide +kernel
theorem dX7_widthOf_9 : decode cX7_widthOf 9 = .ok (.iload_n 1, 1) := by decide +kernel
theorem dX7_widthOf_10 : decode cX7_widthOf 10 = .ok (.invokevirtual 32, 3) := by decide +kernel
theorem dX7_widthOf_13 : decode cX7_widthOf 13 = .ok (.ifCond .eq 12, 3) := by decide +kernel
theorem dX7_widthOf_16 : decode cX7_widthOf 16 = .ok (.aload_n 0, 1) := by decide +kernel
theorem dX7_widthOf_17 : decode cX7_widthOf 17 = .ok (.getfield 15, 3) := by decide +kernel
theorem dX7_widthOf_20 : decode cX7_widthOf 20 = .ok (.iload_n 1, 1) := by decide +kernel
theorem dX7_widthOf_21 : decode cX7_widthOf 21 = .ok (.iaload, 1) := by decide +kernel
theorem dX7_widthOf_22 : decode cX7_widthOf 22 = .ok (.goto 4, 3) := by decide +kernel
theorem dX7_widthOf_25 : decode cX7_widthOf 25 = .ok (.iconst 0, 1) := by decide +kernel
theorem dX7_widthOf_26 : decode cX7_widthOf 26 = .ok (.ireturn, 1) := by decide +kernel
theorem dX7_columnOf_0 : decode cX7_columnOf 0 = .ok (.aload_n 0, 1) := by decide +kernel
theorem dX7_columnOf_1 : decode cX7_columnOf 1 = .ok (.iload_n 1, 1) := by decide +kernel
theorem dX7_columnOf_2 : decode cX7_columnOf 2 = .ok (.invokevirtual 32, 3) := by decide +kernel
theorem dX7_columnOf_5 : decode cX7_columnOf 5 = .ok (.ifCond .eq 26, 3) := by decide +kernel
theorem dX7_columnOf_8 : decode cX7_columnOf 8 = .ok (.iload_n 2, 1) := by decide +kernel
theorem dX7_columnOf_9 : decode cX7_columnOf 9 = .ok (.ifCond .lt 22, 3) := by decide +kernel
theorem dX7_columnOf_12 : decode cX7_columnOf 12 = .ok (.iload_n 2, 1) := by decide +kernel
theorem dX7_columnOf_13 : decode cX7_columnOf 13 = .ok (.iconst 5, 1) := by decide +kernel
theorem dX7_columnOf_14 : decode cX7_columnOf 14 = .ok (.if_icmp .ge 17, 3) := by decide +kernel
theorem dX7_columnOf_17 : decode cX7_columnOf 17 = .ok (.iload_n 2, 1) := by decide +kernel
theorem dX7_columnOf_18 : decode cX7_columnOf 18 = .ok (.aload_n 0, 1) := by decide +kernel
theorem dX7_columnOf_19 : decode cX7_columnOf 19 = .ok (.getfield 15, 3) := by decide +kernel
theorem dX7_columnOf_22 : decode cX7_columnOf 22 = .ok (.iload_n 1, 1) := by decide +kernel
theorem dX7_columnOf_23 : decode cX7_columnOf 23 = .ok (.iaload, 1) := by decide +kernel
theorem dX7_columnOf_24 : decode cX7_columnOf 24 = .ok (.if_icmp .ge 7, 3) := by decide +kernel
theorem dX7_columnOf_27 : decode cX7_columnOf 27 = .ok (.iconst 1, 1) := by decide +kernel
theorem dX7_columnOf_28 : decode cX7_columnOf 28 = .ok (.goto 4, 3) := by decide +kernel
theorem dX7_columnOf_31 : decode cX7_columnOf 31 = .ok (.iconst 0, 1) := by decide +kernel
theorem dX7_columnOf_32 : decode cX7_columnOf 32 = .ok (.istore_n 3, 1) := by decide +kernel
theorem dX7_columnOf_33 : decode cX7_columnOf 33 = .ok (.iload_n 3, 1) := by decide +kernel
theorem dX7_columnOf_34 : decode cX7_columnOf 34 = .ok (.ifCond .eq 16, 3) := by decide +kernel
theorem dX7_columnOf_37 : decode cX7_columnOf 37 = .ok (.aload_n 0, 1) := by decide +kernel
theorem dX7_columnOf_38 : decode cX7_columnOf 38 = .ok (.getfield 9, 3) := by decide +kernel
theorem dX7_columnOf_41 : decode cX7_columnOf 41 = .ok (.iload_n 1, 1) := by decide +kernel
theorem dX7_columnOf_42 : decode cX7_columnOf 42 = .ok (.iconst 5, 1) := by decide +kernel
theorem dX7_columnOf_43 : decode cX7_columnOf 43 = .ok (.imul, 1) := by decide +kernel
theorem dX7_columnOf_44 : decode cX7_columnOf 44 = .ok (.iload_n 2, 1) := by decide +kernel
theorem dX7_columnOf_45 : decode cX7_columnOf 45 = .ok (.iadd, 1) := by decide +kernel
theorem dX7_columnOf_46 : decode cX7_columnOf 46 = .ok (.iaload, 1) := by decide +kernel
theorem dX7_columnOf_47 : decode cX7_columnOf 47 = .ok (.goto 4, 3) := by decide +kernel
theorem dX7_columnOf_50 : decode cX7_columnOf 50 = .ok (.iconst 0, 1) := by decide +kernel
theorem dX7_columnOf_51 : decode cX7_columnOf 51 = .ok (.ireturn, 1) := by decide +kernel
theorem dX7_putColumn_0 : decode cX7_putColumn 0 = .ok (.aload_n 0, 1) := by decide +kernel
theorem dX7_putColumn_1 : decode cX7_putColumn 1 = .ok (.iload_n 1, 1) := by decide +kernel
theorem dX7_putColumn_2 : decode cX7_putColumn 2 = .ok (.invokevirtual 32, 3) := by decide +kernel
theorem dX7_putColumn_5 : decode cX7_putColumn 5 = .ok (.ifCond .eq 41, 3) := by decide +kernel
theorem dX7_putColumn_8 : decode cX7_putColumn 8 = .ok (.iload_n 2, 1) := by decide +kernel
theorem dX7_putColumn_9 : decode cX7_putColumn 9 = .ok (.ifCond .lt 37, 3) := by decide +kernel
theorem dX7_putColumn_12 : decode cX7_putColumn 12 = .ok (.iload_n 2, 1) := by decide +kernel
theorem dX7_putColumn_13 : decode cX7_putColumn 13 = .ok (.iconst 5, 1) := by decide +kernel
theorem dX7_putColumn_14 : decode cX7_putColumn 14 = .ok (.if_icmp .ge 32, 3) := by decide +kernel
theorem dX7_putColumn_17 : decode cX7_putColumn 17 = .ok (.aload_n 0, 1) := by decide +kernel
theorem dX7_putColumn_18 : decode cX7_putColumn 18 = .ok (.getfield 9, 3) := by decide +kernel
theorem dX7_putColumn_21 : decode cX7_putColumn 21 = .ok (.iload_n 1, 1) := by decide +kernel
theorem dX7_putColumn_22 : decode cX7_putColumn 22 = .ok (.iconst 5, 1) := by decide +kernel
theorem dX7_putColumn_23 : decode cX7_putColumn 23 = .ok (.imul, 1) := by decide +kernel
theorem dX7_putColumn_24 : decode cX7_putColumn 24 = .ok (.iload_n 2, 1) := by decide +kernel
theorem dX7_putColumn_25 : decode cX7_putColumn 25 = .ok (.iadd, 1) := by decide +kernel
theorem dX7_putColumn_26 : decode cX7_putColumn 26 = .ok (.iload_n 3, 1) := by decide +kernel
theorem dX7_putColumn_27 : decode cX7_putColumn 27 = .ok (.iastore, 1) := by decide +kernel
theorem dX7_putColumn_28 : decode cX7_putColumn 28 = .ok (.aload_n 0, 1) := by decide +kernel
theorem dX7_putColumn_29 : decode cX7_putColumn 29 = .ok (.getfield 15, 3) := by decide +kernel
theorem dX7_putColumn_32 : decode cX7_putColumn 32 = .ok (.iload_n 1, 1) := by decide +kernel
theorem dX7_putColumn_33 : decode cX7_putColumn 33 = .ok (.aload_n 0, 1) := by decide +kernel
theorem dX7_putColumn_34 : decode cX7_putColumn 34 = .ok (.getfield 15, 3) := by decide +kernel
theorem dX7_putColumn_37 : decode cX7_putColumn 37 = .ok (.iload_n 1, 1) := by decide +kernel
theorem dX7_putColumn_38 : decode cX7_putColumn 38 = .ok (.iaload, 1) := by decide +kernel
theorem dX7_putColumn_39 : decode cX7_putColumn 39 = .ok (.iload_n 2, 1) := by decide +kernel
theorem dX7_putColumn_40 : decode cX7_putColumn 40 = .ok (.iconst 1, 1) := by decide +kernel
theorem dX7_putColumn_41 : decode cX7_putColumn 41 = .ok (.iadd, 1) := by decide +kernel
theorem dX7_putColumn_42 : decode cX7_putColumn 42 = .ok (.invokestatic 36, 3) := by decide +kernel
theorem dX7_putColumn_45 : decode cX7_putColumn 45 = .ok (.iastore, 1) := by decide +kernel
theorem dX7_putColumn_46 : decode cX7_putColumn 46 = .ok (.return_, 1) := by decide +kernel
theorem dX7_isLetter_0 : decode cX7_isLetter 0 = .ok (.iload_n 1, 1) := by decide +kernel
theorem dX7_isLetter_1 : decode cX7_isLetter 1 = .ok (.ifCond .lt 13, 3) := by decide +kernel
theorem dX7_isLetter_4 : decode cX7_isLetter 4 = .ok (.iload_n 1, 1) := by decide +kernel
theorem dX7_isLetter_5 : decode cX7_isLetter 5 = .ok (.bipush 26, 2) := by decide +kernel
theorem dX7_isLetter_7 : decode cX7_isLetter 7 = .ok (.if_icmp .ge 7, 3) := by decide +kernel
theorem dX7_isLetter_10 : decode cX7_isLetter 10 = .ok (.iconst 1, 1) := by decide +kernel
theorem dX7_isLetter_11 : decode cX7_isLetter 11 = .ok (.goto 4, 3) := by decide +kernel
theorem dX7_isLetter_14 : decode cX7_isLetter 14 = .ok (.iconst 0, 1) := by decide +kernel
theorem dX7_isLetter_15 : decode cX7_isLetter 15 = .ok (.ireturn, 1) := by decide +kernel
theorem dX7_hasMessage_0 : decode cX7_hasMessage 0 = .ok (.iload_n 1, 1) := by decide +kernel
theorem dX7_hasMessage_1 : decode cX7_hasMessage 1 = .ok (.ifCond .lt 21, 3) := by decide +kernel
theorem dX7_hasMessage_4 : decode cX7_hasMessage 4 = .ok (.iload_n 1, 1) := by decide +kernel
theorem dX7_hasMessage_5 : decode cX7_hasMessage 5 = .ok (.aload_n 0, 1) := by decide +kernel
theorem dX7_hasMessage_6 : decode cX7_hasMessage 6 = .ok (.getfield 24, 3) := by decide +kernel
theorem dX7_hasMessage_9 : decode cX7_hasMessage 9 = .ok (.if_icmp .ge 13, 3) := by decide +kernel
theorem dX7_hasMessage_12 : decode cX7_hasMessage 12 = .ok (.iload_n 1, 1) := by decide +kernel
theorem dX7_hasMessage_13 : decode cX7_hasMessage 13 = .ok (.bipush 8, 2) := by decide +kernel
theorem dX7_hasMessage_15 : decode cX7_hasMessage 15 = .ok (.if_icmp .ge 7, 3) := by decide +kernel
theorem dX7_hasMessage_18 : decode cX7_hasMessage 18 = .ok (.iconst 1, 1) := by decide +kernel
theorem dX7_hasMessage_19 : decode cX7_hasMessage 19 = .ok (.goto 4, 3) := by decide +kernel
theorem dX7_hasMessage_22 : decode cX7_hasMessage 22 = .ok (.iconst 0, 1) := by decide +kernel
theorem dX7_hasMessage_23 : decode cX7_hasMessage 23 = .ok (.ireturn, 1) := by decide +kernel
theorem dX7_lengthOf_0 : decode cX7_lengthOf 0 = .ok (.aload_n 0, 1) := by decide +kernel
theorem dX7_lengthOf_1 : decode cX7_lengthOf 1 = .ok (.iload_n 1, 1) := by decide +kernel
theorem dX7_lengthOf_2 : decode cX7_lengthOf 2 = .ok (.invokevirtual 42, 3) := by decide +kernel
theorem dX7_lengthOf_5 : decode cX7_lengthOf 5 = .ok (.ifCond .eq 12, 3) := by decide +kernel
theorem dX7_lengthOf_8 : decode cX7_lengthOf 8 = .ok (.aload_n 0, 1) := by decide +kernel
theorem dX7_lengthOf_9 : decode cX7_lengthOf 9 = .ok (.getfield 21, 3) := by decide +kernel
theorem dX7_lengthOf_12 : decode cX7_lengthOf 12 = .ok (.iload_n 1, 1) := by decide +kernel
theorem dX7_lengthOf_13 : decode cX7_lengthOf 13 = .ok (.iaload, 1) := by decide +kernel
theorem dX7_lengthOf_14 : decode cX7_lengthOf 14 = .ok (.goto 4, 3) := by decide +kernel
theorem dX7_lengthOf_17 : decode cX7_lengthOf 17 = .ok (.iconst 0, 1) := by decide +kernel
theorem dX7_lengthOf_18 : decode cX7_lengthOf 18 = .ok (.ireturn, 1) := by decide +kernel
theorem dX7_characterOf_0 : decode cX7_characterOf 0 = .ok (.aload_n 0, 1) := by decide +kernel
theorem dX7_characterOf_1 : decode cX7_characterOf 1 = .ok (.iload_n 1, 1) := by decide +kernel
theorem dX7_characterOf_2 : decode cX7_characterOf 2 = .ok (.invokevirtual 42, 3) := by decide +kernel
theorem dX7_characterOf_5 : decode cX7_characterOf 5 = .ok (.ifCond .eq 17, 3) := by decide +kernel
theorem dX7_characterOf_8 : decode cX7_characterOf 8 = .ok (.iload_n 2, 1) := by decide +kernel
theorem dX7_characterOf_9 : decode cX7_characterOf 9 = .ok (.ifCond .lt 13, 3) := by decide +kernel
theorem dX7_characterOf_12 : decode cX7_characterOf 12 = .ok (.iload_n 2, 1) := by decide +kernel
theorem dX7_characterOf_13 : decode cX7_characterOf 13 = .ok (.bipush 12, 2) := by decide +kernel
theorem dX7_characterOf_15 : decode cX7_characterOf 15 = .ok (.if_icmp .ge 7, 3) := by decide +kernel
theorem dX7_characterOf_18 : decode cX7_characterOf 18 = .ok (.iconst 1, 1) := by decide +kernel
theorem dX7_characterOf_19 : decode cX7_characterOf 19 = .ok (.goto 4, 3) := by decide +kernel
theorem dX7_characterOf_22 : decode cX7_characterOf 22 = .ok (.iconst 0, 1) := by decide +kernel
theorem dX7_characterOf_23 : decode cX7_characterOf 23 = .ok (.istore_n 3, 1) := by decide +kernel
theorem dX7_characterOf_24 : decode cX7_characterOf 24 = .ok (.iload_n 3, 1) := by decide +kernel
theorem dX7_characterOf_25 : decode cX7_characterOf 25 = .ok (.ifCond .eq 17, 3) := by decide +kernel
theorem dX7_characterOf_28 : decode cX7_characterOf 28 = .ok (.aload_n 0, 1) := by decide +kernel
theorem dX7_characterOf_29 : decode cX7_characterOf 29 = .ok (.getfield 18, 3) := by decide +kernel
theorem dX7_characterOf_32 : decode cX7_characterOf 32 = .ok (.iload_n 1, 1) := by decide +kernel
theorem dX7_characterOf_33 : decode cX7_characterOf 33 = .ok (.bipush 12, 2) := by decide +kernel
theorem dX7_characterOf_35 : decode cX7_characterOf 35 = .ok (.imul, 1) := by decide +kernel
theorem dX7_characterOf_36 : decode cX7_characterOf 36 = .ok (.iload_n 2, 1) := by decide +kernel
theorem dX7_characterOf_37 : decode cX7_characterOf 37 = .ok (.iadd, 1) := by decide +kernel
theorem dX7_characterOf_38 : decode cX7_characterOf 38 = .ok (.iaload, 1) := by decide +kernel
theorem dX7_characterOf_39 : decode cX7_characterOf 39 = .ok (.goto 5, 3) := by decide +kernel
theorem dX7_characterOf_42 : decode cX7_characterOf 42 = .ok (.bipush 26, 2) := by decide +kernel
theorem dX7_characterOf_44 : decode cX7_characterOf 44 = .ok (.ireturn, 1) := by decide +kernel
theorem dX7_startMessage_0 : decode cX7_startMessage 0 = .ok (.aload_n 0, 1) := by decide +kernel
theorem dX7_startMessage_1 : decode cX7_startMessage 1 = .ok (.getfield 24, 3) := by decide +kernel
theorem dX7_startMessage_4 : decode cX7_startMessage 4 = .ok (.ifCond .lt 32, 3) := by decide +kernel
theorem dX7_startMessage_7 : decode cX7_startMessage 7 = .ok (.aload_n 0, 1) := by decide +kernel
theorem dX7_startMessage_8 : decode cX7_startMessage 8 = .ok (.getfield 24, 3) := by decide +kernel
theorem dX7_startMessage_11 : decode cX7_startMessage 11 = .ok (.bipush 8, 2) := by decide +kernel
theorem dX7_startMessage_13 : decode cX7_startMessage 13 = .ok (.if_icmp .ge 23, 3) := by decide +kernel
theorem dX7_startMessage_16 : decode cX7_startMessage 16 = .ok (.aload_n 0, 1) := by decide +kernel
theorem dX7_startMessage_17 : decode cX7_startMessage 17 = .ok (.getfield 21, 3) := by decide +kernel
theorem dX7_startMessage_20 : decode cX7_startMessage 20 = .ok (.aload_n 0, 1) := by decide +kernel
theorem dX7_startMessage_21 : decode cX7_startMessage 21 = .ok (.getfield 24, 3) := by decide +kernel
theorem dX7_startMessage_24 : decode cX7_startMessage 24 = .ok (.iconst 0, 1) := by decide +kernel
theorem dX7_startMessage_25 : decode cX7_startMessage 25 = .ok (.iastore, 1) := by decide +kernel
theorem dX7_startMessage_26 : decode cX7_startMessage 26 = .ok (.aload_n 0, 1) := by decide +kernel
theorem dX7_startMessage_27 : decode cX7_startMessage 27 = .ok (.dup, 1) := by decide +kernel
theorem dX7_startMessage_28 : decode cX7_startMessage 28 = .ok (.getfield 24, 3) := by decide +kernel
theorem dX7_startMessage_31 : decode cX7_startMessage 31 = .ok (.iconst 1, 1) := by decide +kernel
theorem dX7_startMessage_32 : decode cX7_startMessage 32 = .ok (.iadd, 1) := by decide +kernel
theorem dX7_startMessage_33 : decode cX7_startMessage 33 = .ok (.putfield 24, 3) := by decide +kernel
theorem dX7_startMessage_36 : decode cX7_startMessage 36 = .ok (.return_, 1) := by decide +kernel
theorem dX7_addCharacter_0 : decode cX7_addCharacter 0 = .ok (.aload_n 0, 1) := by decide +kernel
theorem dX7_addCharacter_1 : decode cX7_addCharacter 1 = .ok (.getfield 24, 3) := by decide +kernel
theorem dX7_addCharacter_4 : decode cX7_addCharacter 4 = .ok (.iconst 1, 1) := by decide +kernel
theorem dX7_addCharacter_5 : decode cX7_addCharacter 5 = .ok (.isub, 1) := by decide +kernel
theorem dX7_addCharacter_6 : decode cX7_addCharacter 6 = .ok (.istore_n 2, 1) := by decide +kernel
theorem dX7_addCharacter_7 : decode cX7_addCharacter 7 = .ok (.aload_n 0, 1) := by decide +kernel
theorem dX7_addCharacter_8 : decode cX7_addCharacter 8 = .ok (.iload_n 2, 1) := by decide +kernel
theorem dX7_addCharacter_9 : decode cX7_addCharacter 9 = .ok (.invokevirtual 45, 3) := by decide +kernel
theorem dX7_addCharacter_12 : decode cX7_addCharacter 12 = .ok (.istore_n 3, 1) := by decide +kernel
theorem dX7_addCharacter_13 : decode cX7_addCharacter 13 = .ok (.aload_n 0, 1) := by decide +kernel
theorem dX7_addCharacter_14 : decode cX7_addCharacter 14 = .ok (.iload_n 2, 1) := by decide +kernel
theorem dX7_addCharacter_15 : decode cX7_addCharacter 15 = .ok (.invokevirtual 42, 3) := by decide +kernel
theorem dX7_addCharacter_18 : decode cX7_addCharacter 18 = .ok (.ifCond .eq 34, 3) := by decide +kernel
theorem dX7_addCharacter_21 : decode cX7_addCharacter 21 = .ok (.iload_n 3, 1) := by decide +kernel
theorem dX7_addCharacter_22 : decode cX7_addCharacter 22 = .ok (.ifCond .lt 30, 3) := by decide +kernel
theorem dX7_addCharacter_25 : decode cX7_addCharacter 25 = .ok (.iload_n 3, 1) := by decide +kernel
theorem dX7_addCharacter_26 : decode cX7_addCharacter 26 = .ok (.bipush 12, 2) := by decide +kernel
theorem dX7_addCharacter_28 : decode cX7_addCharacter 28 = .ok (.if_icmp .ge 24, 3) := by decide +kernel
theorem dX7_addCharacter_31 : decode cX7_addCharacter 31 = .ok (.aload_n 0, 1) := by decide +kernel
theorem dX7_addCharacter_32 : decode cX7_addCharacter 32 = .ok (.getfield 18, 3) := by decide +kernel
theorem dX7_addCharacter_35 : decode cX7_addCharacter 35 = .ok (.iload_n 2, 1) := by decide +kernel
theorem dX7_addCharacter_36 : decode cX7_addCharacter 36 = .ok (.bipush 12, 2) := by decide +kernel
theorem dX7_addCharacter_38 : decode cX7_addCharacter 38 = .ok (.imul, 1) := by decide +kernel
theorem dX7_addCharacter_39 : decode cX7_addCharacter 39 = .ok (.iload_n 3, 1) := by decide +kernel
theorem dX7_addCharacter_40 : decode cX7_addCharacter 40 = .ok (.iadd, 1) := by decide +kernel
theorem dX7_addCharacter_41 : decode cX7_addCharacter 41 = .ok (.iload_n 1, 1) := by decide +kernel
theorem dX7_addCharacter_42 : decode cX7_addCharacter 42 = .ok (.iastore, 1) := by decide +kernel
theorem dX7_addCharacter_43 : decode cX7_addCharacter 43 = .ok (.aload_n 0, 1) := by decide +kernel
theorem dX7_addCharacter_44 : decode cX7_addCharacter 44 = .ok (.getfield 21, 3) := by decide +kernel
theorem dX7_addCharacter_47 : decode cX7_addCharacter 47 = .ok (.iload_n 2, 1) := by decide +kernel
theorem dX7_addCharacter_48 : decode cX7_addCharacter 48 = .ok (.iload_n 3, 1) := by decide +kernel
theorem dX7_addCharacter_49 : decode cX7_addCharacter 49 = .ok (.iconst 1, 1) := by decide +kernel
theorem dX7_addCharacter_50 : decode cX7_addCharacter 50 = .ok (.iadd, 1) := by decide +kernel
theorem dX7_addCharacter_51 : decode cX7_addCharacter 51 = .ok (.iastore, 1) := by decide +kernel
theorem dX7_addCharacter_52 : decode cX7_addCharacter 52 = .ok (.return_, 1) := by decide +kernel
theorem dX7_dropMessage_0 : decode cX7_dropMessage 0 = .ok (.aload_n 0, 1) := by decide +kernel
theorem dX7_dropMessage_1 : decode cX7_dropMessage 1 = .ok (.iload_n 1, 1) := by decide +kernel
theorem dX7_dropMessage_2 : decode cX7_dropMessage 2 = .ok (.invokevirtual 42, 3) := by decide +kernel
theorem dX7_dropMessage_5 : decode cX7_dropMessage 5 = .ok (.ifCond .ne 4, 3) := by decide +kernel
theorem dX7_dropMessage_8 : decode cX7_dropMessage 8 = .ok (.return_, 1) := by decide +kernel
theorem dX7_dropMessage_9 : decode cX7_dropMessage 9 = .ok (.iload_n 1, 1) := by decide +kernel
theorem dX7_dropMessage_10 : decode cX7_dropMessage 10 = .ok (.istore_n 2, 1) := by decide +kernel
theorem dX7_dropMessage_11 : decode cX7_dropMessage 11 = .ok (.iload_n 2, 1) := by decide +kernel
theorem dX7_dropMessage_12 : decode cX7_dropMessage 12 = .ok (.iconst 1, 1) := by decide +kernel
theorem dX7_dropMessage_13 : decode cX7_dropMessage 13 = .ok (.iadd, 1) := by decide +kernel
theorem dX7_dropMessage_14 : decode cX7_dropMessage 14 = .ok (.bipush 8, 2) := by decide +kernel
theorem dX7_dropMessage_16 : decode cX7_dropMessage 16 = .ok (.if_icmp .ge 65, 3) := by decide +kernel
theorem dX7_dropMessage_19 : decode cX7_dropMessage 19 = .ok (.aload_n 0, 1) := by decide +kernel
theorem dX7_dropMessage_20 : decode cX7_dropMessage 20 = .ok (.getfield 21, 3) := by decide +kernel
theorem dX7_dropMessage_23 : decode cX7_dropMessage 23 = .ok (.iload_n 2, 1) := by decide +kernel
theorem dX7_dropMessage_24 : decode cX7_dropMessage 24 = .ok (.aload_n 0, 1) := by decide +kernel
theorem dX7_dropMessage_25 : decode cX7_dropMessage 25 = .ok (.getfield 21, 3) := by decide +kernel
theorem dX7_dropMessage_28 : decode cX7_dropMessage 28 = .ok (.iload_n 2, 1) := by decide +kernel
theorem dX7_dropMessage_29 : decode cX7_dropMessage 29 = .ok (.iconst 1, 1) := by decide +kernel
theorem dX7_dropMessage_30 : decode cX7_dropMessage 30 = .ok (.iadd, 1) := by decide +kernel
theorem dX7_dropMessage_31 : decode cX7_dropMessage 31 = .ok (.iaload, 1) := by decide +kernel
theorem dX7_dropMessage_32 : decode cX7_dropMessage 32 = .ok (.iastore, 1) := by decide +kernel
theorem dX7_dropMessage_33 : decode cX7_dropMessage 33 = .ok (.iconst 0, 1) := by decide +kernel
theorem dX7_dropMessage_34 : decode cX7_dropMessage 34 = .ok (.istore_n 3, 1) := by decide +kernel
theorem dX7_dropMessage_35 : decode cX7_dropMessage 35 = .ok (.iload_n 3, 1) := by decide +kernel
theorem dX7_dropMessage_36 : decode cX7_dropMessage 36 = .ok (.bipush 12, 2) := by decide +kernel
theorem dX7_dropMessage_38 : decode cX7_dropMessage 38 = .ok (.if_icmp .ge 37, 3) := by decide +kernel
theorem dX7_dropMessage_41 : decode cX7_dropMessage 41 = .ok (.iload_n 2, 1) := by decide +kernel
theorem dX7_dropMessage_42 : decode cX7_dropMessage 42 = .ok (.iconst 1, 1) := by decide +kernel
theorem dX7_dropMessage_43 : decode cX7_dropMessage 43 = .ok (.iadd, 1) := by decide +kernel
theorem dX7_dropMessage_44 : decode cX7_dropMessage 44 = .ok (.bipush 12, 2) := by decide +kernel
theorem dX7_dropMessage_46 : decode cX7_dropMessage 46 = .ok (.imul, 1) := by decide +kernel
theorem dX7_dropMessage_47 : decode cX7_dropMessage 47 = .ok (.iload_n 3, 1) := by decide +kernel
theorem dX7_dropMessage_48 : decode cX7_dropMessage 48 = .ok (.iadd, 1) := by decide +kernel
theorem dX7_dropMessage_49 : decode cX7_dropMessage 49 = .ok (.istore 4, 2) := by decide +kernel
theorem dX7_dropMessage_51 : decode cX7_dropMessage 51 = .ok (.aload_n 0, 1) := by decide +kernel
theorem dX7_dropMessage_52 : decode cX7_dropMessage 52 = .ok (.getfield 18, 3) := by decide +kernel
theorem dX7_dropMessage_55 : decode cX7_dropMessage 55 = .ok (.iload_n 2, 1) := by decide +kernel
theorem dX7_dropMessage_56 : decode cX7_dropMessage 56 = .ok (.bipush 12, 2) := by decide +kernel
theorem dX7_dropMessage_58 : decode cX7_dropMessage 58 = .ok (.imul, 1) := by decide +kernel
theorem dX7_dropMessage_59 : decode cX7_dropMessage 59 = .ok (.iload_n 3, 1) := by decide +kernel
theorem dX7_dropMessage_60 : decode cX7_dropMessage 60 = .ok (.iadd, 1) := by decide +kernel
theorem dX7_dropMessage_61 : decode cX7_dropMessage 61 = .ok (.aload_n 0, 1) := by decide +kernel
theorem dX7_dropMessage_62 : decode cX7_dropMessage 62 = .ok (.getfield 18, 3) := by decide +kernel
theorem dX7_dropMessage_65 : decode cX7_dropMessage 65 = .ok (.iload 4, 2) := by decide +kernel
theorem dX7_dropMessage_67 : decode cX7_dropMessage 67 = .ok (.iaload, 1) := by decide +kernel
theorem dX7_dropMessage_68 : decode cX7_dropMessage 68 = .ok (.iastore, 1) := by decide +kernel
theorem dX7_dropMessage_69 : decode cX7_dropMessage 69 = .ok (.iinc 3 1, 3) := by decide +kernel
theorem dX7_dropMessage_72 : decode cX7_dropMessage 72 = .ok (.goto (-37), 3) := by decide +kernel
theorem dX7_dropMessage_75 : decode cX7_dropMessage 75 = .ok (.iinc 2 1, 3) := by decide +kernel
theorem dX7_dropMessage_78 : decode cX7_dropMessage 78 = .ok (.goto (-67), 3) := by decide +kernel
theorem dX7_dropMessage_81 : decode cX7_dropMessage 81 = .ok (.aload_n 0, 1) := by decide +kernel
theorem dX7_dropMessage_82 : decode cX7_dropMessage 82 = .ok (.dup, 1) := by decide +kernel
theorem dX7_dropMessage_83 : decode cX7_dropMessage 83 = .ok (.getfield 24, 3) := by decide +kernel
theorem dX7_dropMessage_86 : decode cX7_dropMessage 86 = .ok (.iconst 1, 1) := by decide +kernel
theorem dX7_dropMessage_87 : decode cX7_dropMessage 87 = .ok (.isub, 1) := by decide +kernel
theorem dX7_dropMessage_88 : decode cX7_dropMessage 88 = .ok (.putfield 24, 3) := by decide +kernel
theorem dX7_dropMessage_91 : decode cX7_dropMessage 91 = .ok (.return_, 1) := by decide +kernel
theorem dX7_stripColumns_0 : decode cX7_stripColumns 0 = .ok (.aload_n 0, 1) := by decide +kernel
theorem dX7_stripColumns_1 : decode cX7_stripColumns 1 = .ok (.iload_n 1, 1) := by decide +kernel
theorem dX7_stripColumns_2 : decode cX7_stripColumns 2 = .ok (.invokevirtual 45, 3) := by decide +kernel
theorem dX7_stripColumns_5 : decode cX7_stripColumns 5 = .ok (.istore_n 2, 1) := by decide +kernel
theorem dX7_stripColumns_6 : decode cX7_stripColumns 6 = .ok (.iload_n 2, 1) := by decide +kernel
theorem dX7_stripColumns_7 : decode cX7_stripColumns 7 = .ok (.iconst 1, 1) := by decide +kernel
theorem dX7_stripColumns_8 : decode cX7_stripColumns 8 = .ok (.isub, 1) := by decide +kernel
theorem dX7_stripColumns_9 : decode cX7_stripColumns 9 = .ok (.iconst 0, 1) := by decide +kernel
theorem dX7_stripColumns_10 : decode cX7_stripColumns 10 = .ok (.invokestatic 36, 3) := by decide +kernel
theorem dX7_stripColumns_13 : decode cX7_stripColumns 13 = .ok (.istore_n 3, 1) := by decide +kernel
theorem dX7_stripColumns_14 : decode cX7_stripColumns 14 = .ok (.iconst 0, 1) := by decide +kernel
theorem dX7_stripColumns_15 : decode cX7_stripColumns 15 = .ok (.istore 4, 2) := by decide +kernel
theorem dX7_stripColumns_17 : decode cX7_stripColumns 17 = .ok (.iload 4, 2) := by decide +kernel
theorem dX7_stripColumns_19 : decode cX7_stripColumns 19 = .ok (.iload_n 2, 1) := by decide +kernel
theorem dX7_stripColumns_20 : decode cX7_stripColumns 20 = .ok (.if_icmp .ge 23, 3) := by decide +kernel
theorem dX7_stripColumns_23 : decode cX7_stripColumns 23 = .ok (.iload_n 3, 1) := by decide +kernel
theorem dX7_stripColumns_24 : decode cX7_stripColumns 24 = .ok (.aload_n 0, 1) := by decide +kernel
theorem dX7_stripColumns_25 : decode cX7_stripColumns 25 = .ok (.aload_n 0, 1) := by decide +kernel
theorem dX7_stripColumns_26 : decode cX7_stripColumns 26 = .ok (.iload_n 1, 1) := by decide +kernel
theorem dX7_stripColumns_27 : decode cX7_stripColumns 27 = .ok (.iload 4, 2) := by decide +kernel
theorem dX7_stripColumns_29 : decode cX7_stripColumns 29 = .ok (.invokevirtual 49, 3) := by decide +kernel
theorem dX7_stripColumns_32 : decode cX7_stripColumns 32 = .ok (.invokevirtual 52, 3) := by decide +kernel
theorem dX7_stripColumns_35 : decode cX7_stripColumns 35 = .ok (.iadd, 1) := by decide +kernel
theorem dX7_stripColumns_36 : decode cX7_stripColumns 36 = .ok (.istore_n 3, 1) := by decide +kernel
theorem dX7_stripColumns_37 : decode cX7_stripColumns 37 = .ok (.iinc 4 1, 3) := by decide +kernel
theorem dX7_stripColumns_40 : decode cX7_stripColumns 40 = .ok (.goto (-23), 3) := by decide +kernel
theorem dX7_stripColumns_43 : decode cX7_stripColumns 43 = .ok (.iload_n 3, 1) := by decide +kernel
theorem dX7_stripColumns_44 : decode cX7_stripColumns 44 = .ok (.ireturn, 1) := by decide +kernel
theorem dX7_stripBits_0 : decode cX7_stripBits 0 = .ok (.iload_n 2, 1) := by decide +kernel
theorem dX7_stripBits_1 : decode cX7_stripBits 1 = .ok (.istore_n 3, 1) := by decide +kernel
theorem dX7_stripBits_2 : decode cX7_stripBits 2 = .ok (.iconst 0, 1) := by decide +kernel
theorem dX7_stripBits_3 : decode cX7_stripBits 3 = .ok (.istore 4, 2) := by decide +kernel
theorem dX7_stripBits_5 : decode cX7_stripBits 5 = .ok (.iload 4, 2) := by decide +kernel
theorem dX7_stripBits_7 : decode cX7_stripBits 7 = .ok (.aload_n 0, 1) := by decide +kernel
theorem dX7_stripBits_8 : decode cX7_stripBits 8 = .ok (.iload_n 1, 1) := by decide +kernel
theorem dX7_stripBits_9 : decode cX7_stripBits 9 = .ok (.invokevirtual 45, 3) := by decide +kernel
theorem dX7_stripBits_12 : decode cX7_stripBits 12 = .ok (.if_icmp .ge 51, 3) := by decide +kernel
theorem dX7_stripBits_15 : decode cX7_stripBits 15 = .ok (.iload_n 3, 1) := by decide +kernel
theorem dX7_stripBits_16 : decode cX7_stripBits 16 = .ok (.ifCond .lt 47, 3) := by decide +kernel
theorem dX7_stripBits_19 : decode cX7_stripBits 19 = .ok (.aload_n 0, 1) := by decide +kernel
theorem dX7_stripBits_20 : decode cX7_stripBits 20 = .ok (.iload_n 1, 1) := by decide +kernel
theorem dX7_stripBits_21 : decode cX7_stripBits 21 = .ok (.iload 4, 2) := by decide +kernel
theorem dX7_stripBits_23 : decode cX7_stripBits 23 = .ok (.invokevirtual 49, 3) := by decide +kernel
theorem dX7_stripBits_26 : decode cX7_stripBits 26 = .ok (.istore 5, 2) := by decide +kernel
theorem dX7_stripBits_28 : decode cX7_stripBits 28 = .ok (.aload_n 0, 1) := by decide +kernel
theorem dX7_stripBits_29 : decode cX7_stripBits 29 = .ok (.iload 5, 2) := by decide +kernel
theorem dX7_stripBits_31 : decode cX7_stripBits 31 = .ok (.invokevirtual 52, 3) := by decide +kernel
theorem dX7_stripBits_34 : decode cX7_stripBits 34 = .ok (.istore 6, 2) := by decide +kernel
theorem dX7_stripBits_36 : decode cX7_stripBits 36 = .ok (.iload_n 3, 1) := by decide +kernel
theorem dX7_stripBits_37 : decode cX7_stripBits 37 = .ok (.iload 6, 2) := by decide +kernel
theorem dX7_stripBits_39 : decode cX7_stripBits 39 = .ok (.if_icmp .ge 11, 3) := by decide +kernel
theorem dX7_stripBits_42 : decode cX7_stripBits 42 = .ok (.aload_n 0, 1) := by decide +kernel
theorem dX7_stripBits_43 : decode cX7_stripBits 43 = .ok (.iload 5, 2) := by decide +kernel
theorem dX7_stripBits_45 : decode cX7_stripBits 45 = .ok (.iload_n 3, 1) := by decide +kernel
theorem dX7_stripBits_46 : decode cX7_stripBits 46 = .ok (.invokevirtual 55, 3) := by decide +kernel
theorem dX7_stripBits_49 : decode cX7_stripBits 49 = .ok (.ireturn, 1) := by decide +kernel
theorem dX7_stripBits_50 : decode cX7_stripBits 50 = .ok (.iload_n 3, 1) := by decide +kernel
theorem dX7_stripBits_51 : decode cX7_stripBits 51 = .ok (.iload 6, 2) := by decide +kernel
theorem dX7_stripBits_53 : decode cX7_stripBits 53 = .ok (.iconst 1, 1) := by decide +kernel
theorem dX7_stripBits_54 : decode cX7_stripBits 54 = .ok (.iadd, 1) := by decide +kernel
theorem dX7_stripBits_55 : decode cX7_stripBits 55 = .ok (.isub, 1) := by decide +kernel
theorem dX7_stripBits_56 : decode cX7_stripBits 56 = .ok (.istore_n 3, 1) := by decide +kernel
theorem dX7_stripBits_57 : decode cX7_stripBits 57 = .ok (.iinc 4 1, 3) := by decide +kernel
theorem dX7_stripBits_60 : decode cX7_stripBits 60 = .ok (.goto (-55), 3) := by decide +kernel
theorem dX7_stripBits_63 : decode cX7_stripBits 63 = .ok (.iconst 0, 1) := by decide +kernel
theorem dX7_stripBits_64 : decode cX7_stripBits 64 = .ok (.ireturn, 1) := by decide +kernel
theorem dX8_init_0 : decode cX8_init 0 = .ok (.aload_n 0, 1) := by decide +kernel
theorem dX8_init_1 : decode cX8_init 1 = .ok (.invokespecial 3, 3) := by decide +kernel
theorem dX8_init_4 : decode cX8_init 4 = .ok (.aload_n 0, 1) := by decide +kernel
theorem dX8_init_5 : decode cX8_init 5 = .ok (.new 9, 3) := by decide +kernel
theorem dX8_init_8 : decode cX8_init 8 = .ok (.dup, 1) := by decide +kernel
theorem dX8_init_9 : decode cX8_init 9 = .ok (.invokespecial 11, 3) := by decide +kernel
theorem dX8_init_12 : decode cX8_init 12 = .ok (.putfield 12, 3) := by decide +kernel
theorem dX8_init_15 : decode cX8_init 15 = .ok (.aload_n 0, 1) := by decide +kernel
theorem dX8_init_16 : decode cX8_init 16 = .ok (.new 18, 3) := by decide +kernel
theorem dX8_init_19 : decode cX8_init 19 = .ok (.dup, 1) := by decide +kernel
theorem dX8_init_20 : decode cX8_init 20 = .ok (.invokespecial 20, 3) := by decide +kernel
theorem dX8_init_23 : decode cX8_init 23 = .ok (.putfield 21, 3) := by decide +kernel
theorem dX8_init_26 : decode cX8_init 26 = .ok (.aload_n 0, 1) := by decide +kernel
theorem dX8_init_27 : decode cX8_init 27 = .ok (.new 25, 3) := by decide +kernel
theorem dX8_init_30 : decode cX8_init 30 = .ok (.dup, 1) := by decide +kernel
theorem dX8_init_31 : decode cX8_init 31 = .ok (.invokespecial 27, 3) := by decide +kernel
theorem dX8_init_34 : decode cX8_init 34 = .ok (.putfield 28, 3) := by decide +kernel
theorem dX8_init_37 : decode cX8_init 37 = .ok (.aload_n 0, 1) := by decide +kernel
theorem dX8_init_38 : decode cX8_init 38 = .ok (.getstatic 32, 3) := by decide +kernel
theorem dX8_init_41 : decode cX8_init 41 = .ok (.invokevirtual 36, 3) := by decide +kernel
theorem dX8_init_44 : decode cX8_init 44 = .ok (.checkcast 37, 3) := by decide +kernel
theorem dX8_init_47 : decode cX8_init 47 = .ok (.putfield 41, 3) := by decide +kernel
theorem dX8_init_50 : decode cX8_init 50 = .ok (.return_, 1) := by decide +kernel
theorem dX8_copyFrom_0 : decode cX8_copyFrom 0 = .ok (.aload_n 0, 1) := by decide +kernel
theorem dX8_copyFrom_1 : decode cX8_copyFrom 1 = .ok (.getfield 12, 3) := by decide +kernel
theorem dX8_copyFrom_4 : decode cX8_copyFrom 4 = .ok (.aload_n 1, 1) := by decide +kernel
theorem dX8_copyFrom_5 : decode cX8_copyFrom 5 = .ok (.getfield 12, 3) := by decide +kernel
theorem dX8_copyFrom_8 : decode cX8_copyFrom 8 = .ok (.invokevirtual 44, 3) := by decide +kernel
theorem dX8_copyFrom_11 : decode cX8_copyFrom 11 = .ok (.aload_n 0, 1) := by decide +kernel
theorem dX8_copyFrom_12 : decode cX8_copyFrom 12 = .ok (.getfield 21, 3) := by decide +kernel
theorem dX8_copyFrom_15 : decode cX8_copyFrom 15 = .ok (.aload_n 1, 1) := by decide +kernel
theorem dX8_copyFrom_16 : decode cX8_copyFrom 16 = .ok (.getfield 21, 3) := by decide +kernel
theorem dX8_copyFrom_19 : decode cX8_copyFrom 19 = .ok (.invokevirtual 48, 3) := by decide +kernel
theorem dX8_copyFrom_22 : decode cX8_copyFrom 22 = .ok (.aload_n 0, 1) := by decide +kernel
theorem dX8_copyFrom_23 : decode cX8_copyFrom 23 = .ok (.getfield 28, 3) := by decide +kernel
theorem dX8_copyFrom_26 : decode cX8_copyFrom 26 = .ok (.aload_n 1, 1) := by decide +kernel
theorem dX8_copyFrom_27 : decode cX8_copyFrom 27 = .ok (.getfield 28, 3) := by decide +kernel
theorem dX8_copyFrom_30 : decode cX8_copyFrom 30 = .ok (.invokevirtual 51, 3) := by decide +kernel
theorem dX8_copyFrom_33 : decode cX8_copyFrom 33 = .ok (.aload_n 1, 1) := by decide +kernel
theorem dX8_copyFrom_34 : decode cX8_copyFrom 34 = .ok (.getfield 41, 3) := by decide +kernel
theorem dX8_copyFrom_37 : decode cX8_copyFrom 37 = .ok (.aload_n 0, 1) := by decide +kernel
theorem dX8_copyFrom_38 : decode cX8_copyFrom 38 = .ok (.getfield 41, 3) := by decide +kernel
theorem dX8_copyFrom_41 : decode cX8_copyFrom 41 = .ok (.invokestatic 54, 3) := by decide +kernel
theorem dX8_copyFrom_44 : decode cX8_copyFrom 44 = .ok (.return_, 1) := by decide +kernel
theorem dX8_hasNumber_0 : decode cX8_hasNumber 0 = .ok (.iload_n 1, 1) := by decide +kernel
theorem dX8_hasNumber_1 : decode cX8_hasNumber 1 = .ok (.ifCond .lt 16, 3) := by decide +kernel
theorem dX8_hasNumber_4 : decode cX8_hasNumber 4 = .ok (.iload_n 1, 1) := by decide +kernel
theorem dX8_hasNumber_5 : decode cX8_hasNumber 5 = .ok (.aload_n 0, 1) := by decide +kernel
theorem dX8_hasNumber_6 : decode cX8_hasNumber 6 = .ok (.getfield 41, 3) := by decide +kernel
theorem dX8_hasNumber_9 : decode cX8_hasNumber 9 = .ok (.arraylength, 1) := by decide +kernel
theorem dX8_hasNumber_10 : decode cX8_hasNumber 10 = .ok (.if_icmp .ge 7, 3) := by decide +kernel
theorem dX8_hasNumber_13 : decode cX8_hasNumber 13 = .ok (.iconst 1, 1) := by decide +kernel
theorem dX8_hasNumber_14 : decode cX8_hasNumber 14 = .ok (.goto 4, 3) := by decide +kernel
theorem dX8_hasNumber_17 : decode cX8_hasNumber 17 = .ok (.iconst 0, 1) := by decide +kernel
theorem dX8_hasNumber_18 : decode cX8_hasNumber 18 = .ok (.ireturn, 1) := by decide +kernel
theorem dX8_tryDot_0 : decode cX8_tryDot 0 = .ok (.aload_n 0, 1) := by decide +kernel
theorem dX8_tryDot_1 : decode cX8_tryDot 1 = .ok (.getfield 12, 3) := by decide +kernel
theorem dX8_tryDot_4 : decode cX8_tryDot 4 = .ok (.iload_n 1, 1) := by decide +kernel
theorem dX8_tryDot_5 : decode cX8_tryDot 5 = .ok (.iload_n 2, 1) := by decide +kernel
theorem dX8_tryDot_6 : decode cX8_tryDot 6 = .ok (.invokevirtual 58, 3) := by decide +kernel
theorem dX8_tryDot_9 : decode cX8_tryDot 9 = .ok (.ifCond .eq 26, 3) := by decide +kernel
theorem dX8_tryDot_12 : decode cX8_tryDot 12 = .ok (.aload_n 0, 1) := by decide +kernel
theorem dX8_tryDot_13 : decode cX8_tryDot 13 = .ok (.getfield 12, 3) := by decide +kernel
theorem dX8_tryDot_16 : decode cX8_tryDot 16 = .ok (.iload_n 1, 1) := by decide +kernel
theorem dX8_tryDot_17 : decode cX8_tryDot 17 = .ok (.iload_n 2, 1) := by decide +kernel
theorem dX8_tryDot_18 : decode cX8_tryDot 18 = .ok (.invokevirtual 62, 3) := by decide +kernel
theorem dX8_tryDot_21 : decode cX8_tryDot 21 = .ok (.aload_n 0, 1) := by decide +kernel
theorem dX8_tryDot_22 : decode cX8_tryDot 22 = .ok (.getfield 21, 3) := by decide +kernel
theorem dX8_tryDot_25 : decode cX8_tryDot 25 = .ok (.dup, 1) := by decide +kernel
theorem dX8_tryDot_26 : decode cX8_tryDot 26 = .ok (.getfield 66, 3) := by decide +kernel
theorem dX8_tryDot_29 : decode cX8_tryDot 29 = .ok (.iconst 1, 1) := by decide +kernel
theorem dX8_tryDot_30 : decode cX8_tryDot 30 = .ok (.iadd, 1) := by decide +kernel
theorem dX8_tryDot_31 : decode cX8_tryDot 31 = .ok (.putfield 66, 3) := by decide +kernel
theorem dX8_tryDot_34 : decode cX8_tryDot 34 = .ok (.return_, 1) := by decide +kernel
theorem dX8_tryDot_35 : decode cX8_tryDot 35 = .ok (.aload_n 0, 1) := by decide +kernel
theorem dX8_tryDot_36 : decode cX8_tryDot 36 = .ok (.getfield 12, 3) := by decide +kernel
theorem dX8_tryDot_39 : decode cX8_tryDot 39 = .ok (.iload_n 1, 1) := by decide +kernel
theorem dX8_tryDot_40 : decode cX8_tryDot 40 = .ok (.iload_n 2, 1) := by decide +kernel
theorem dX8_tryDot_41 : decode cX8_tryDot 41 = .ok (.invokevirtual 70, 3) := by decide +kernel
theorem dX8_tryDot_44 : decode cX8_tryDot 44 = .ok (.aload_n 0, 1) := by decide +kernel
theorem dX8_tryDot_45 : decode cX8_tryDot 45 = .ok (.getfield 21, 3) := by decide +kernel
theorem dX8_tryDot_48 : decode cX8_tryDot 48 = .ok (.dup, 1) := by decide +kernel
theorem dX8_tryDot_49 : decode cX8_tryDot 49 = .ok (.getfield 73, 3) := by decide +kernel
theorem dX8_tryDot_52 : decode cX8_tryDot 52 = .ok (.iconst 1, 1) := by decide +kernel
theorem dX8_tryDot_53 : decode cX8_tryDot 53 = .ok (.iadd, 1) := by decide +kernel
theorem dX8_tryDot_54 : decode cX8_tryDot 54 = .ok (.putfield 73, 3) := by decide +kernel
theorem dX8_tryDot_57 : decode cX8_tryDot 57 = .ok (.aload_n 0, 1) := by decide +kernel
theorem dX8_tryDot_58 : decode cX8_tryDot 58 = .ok (.getfield 12, 3) := by decide +kernel
theorem dX8_tryDot_61 : decode cX8_tryDot 61 = .ok (.iload_n 1, 1) := by decide +kernel
theorem dX8_tryDot_62 : decode cX8_tryDot 62 = .ok (.iload_n 2, 1) := by decide +kernel
theorem dX8_tryDot_63 : decode cX8_tryDot 63 = .ok (.invokevirtual 76, 3) := by decide +kernel
theorem dX8_tryDot_66 : decode cX8_tryDot 66 = .ok (.aload_n 0, 1) := by decide +kernel
theorem dX8_tryDot_67 : decode cX8_tryDot 67 = .ok (.getfield 41, 3) := by decide +kernel
theorem dX8_tryDot_70 : decode cX8_tryDot 70 = .ok (.iconst 2, 1) := by decide +kernel
theorem dX8_tryDot_71 : decode cX8_tryDot 71 = .ok (.iaload, 1) := by decide +kernel
theorem dX8_tryDot_72 : decode cX8_tryDot 72 = .ok (.if_icmp .lt 12, 3) := by decide +kernel
theorem dX8_tryDot_75 : decode cX8_tryDot 75 = .ok (.aload_n 0, 1) := by decide +kernel
theorem dX8_tryDot_76 : decode cX8_tryDot 76 = .ok (.getfield 12, 3) := by decide +kernel
theorem dX8_tryDot_79 : decode cX8_tryDot 79 = .ok (.iload_n 1, 1) := by decide +kernel
theorem dX8_tryDot_80 : decode cX8_tryDot 80 = .ok (.iload_n 2, 1) := by decide +kernel
theorem dX8_tryDot_81 : decode cX8_tryDot 81 = .ok (.invokevirtual 80, 3) := by decide +kernel
theorem dX8_tryDot_84 : decode cX8_tryDot 84 = .ok (.return_, 1) := by decide +kernel
theorem dX9_init_0 : decode cX9_init 0 = .ok (.aload_n 0, 1) := by decide +kernel
theorem dX9_init_1 : decode cX9_init 1 = .ok (.invokespecial 1, 3) := by decide +kernel
theorem dX9_init_4 : decode cX9_init 4 = .ok (.aload_n 0, 1) := by decide +kernel
theorem dX9_init_5 : decode cX9_init 5 = .ok (.new 7, 3) := by decide +kernel
theorem dX9_init_8 : decode cX9_init 8 = .ok (.dup, 1) := by decide +kernel
theorem dX9_init_9 : decode cX9_init 9 = .ok (.invokespecial 9, 3) := by decide +kernel
theorem dX9_init_12 : decode cX9_init 12 = .ok (.putfield 10, 3) := by decide +kernel
theorem dX9_init_15 : decode cX9_init 15 = .ok (.aload_n 0, 1) := by decide +kernel
theorem dX9_init_16 : decode cX9_init 16 = .ok (.new 7, 3) := by decide +kernel
theorem dX9_init_19 : decode cX9_init 19 = .ok (.dup, 1) := by decide +kernel
theorem dX9_init_20 : decode cX9_init 20 = .ok (.invokespecial 9, 3) := by decide +kernel
theorem dX9_init_23 : decode cX9_init 23 = .ok (.putfield 16, 3) := by decide +kernel
theorem dX9_init_26 : decode cX9_init 26 = .ok (.aload_n 0, 1) := by decide +kernel
theorem dX9_init_27 : decode cX9_init 27 = .ok (.new 19, 3) := by decide +kernel
theorem dX9_init_30 : decode cX9_init 30 = .ok (.dup, 1) := by decide +kernel
theorem dX9_init_31 : decode cX9_init 31 = .ok (.invokespecial 21, 3) := by decide +kernel
theorem dX9_init_34 : decode cX9_init 34 = .ok (.putfield 22, 3) := by decide +kernel
theorem dX9_init_37 : decode cX9_init 37 = .ok (.aload_n 0, 1) := by decide +kernel
theorem dX9_init_38 : decode cX9_init 38 = .ok (.new 26, 3) := by decide +kernel
theorem dX9_init_41 : decode cX9_init 41 = .ok (.dup, 1) := by decide +kernel
theorem dX9_init_42 : decode cX9_init 42 = .ok (.invokespecial 28, 3) := by decide +kernel
theorem dX9_init_45 : decode cX9_init 45 = .ok (.putfield 29, 3) := by decide +kernel
theorem dX9_init_48 : decode cX9_init 48 = .ok (.aload_n 0, 1) := by decide +kernel
theorem dX9_init_49 : decode cX9_init 49 = .ok (.new 33, 3) := by decide +kernel
theorem dX9_init_52 : decode cX9_init 52 = .ok (.dup, 1) := by decide +kernel
theorem dX9_init_53 : decode cX9_init 53 = .ok (.invokespecial 35, 3) := by decide +kernel
theorem dX9_init_56 : decode cX9_init 56 = .ok (.putfield 36, 3) := by decide +kernel
theorem dX9_init_59 : decode cX9_init 59 = .ok (.aload_n 0, 1) := by decide +kernel
theorem dX9_init_60 : decode cX9_init 60 = .ok (.new 40, 3) := by decide +kernel
theorem dX9_init_63 : decode cX9_init 63 = .ok (.dup, 1) := by decide +kernel
theorem dX9_init_64 : decode cX9_init 64 = .ok (.invokespecial 42, 3) := by decide +kernel
theorem dX9_init_67 : decode cX9_init 67 = .ok (.putfield 43, 3) := by decide +kernel
theorem dX9_init_70 : decode cX9_init 70 = .ok (.aload_n 0, 1) := by decide +kernel
theorem dX9_init_71 : decode cX9_init 71 = .ok (.new 47, 3) := by decide +kernel
theorem dX9_init_74 : decode cX9_init 74 = .ok (.dup, 1) := by decide +kernel
theorem dX9_init_75 : decode cX9_init 75 = .ok (.invokespecial 49, 3) := by decide +kernel
theorem dX9_init_78 : decode cX9_init 78 = .ok (.putfield 50, 3) := by decide +kernel
theorem dX9_init_81 : decode cX9_init 81 = .ok (.aload_n 0, 1) := by decide +kernel
theorem dX9_init_82 : decode cX9_init 82 = .ok (.bipush 120, 2) := by decide +kernel
theorem dX9_init_84 : decode cX9_init 84 = .ok (.newarray .int, 2) := by decide +kernel
theorem dX9_init_86 : decode cX9_init 86 = .ok (.putfield 54, 3) := by decide +kernel
theorem dX9_init_89 : decode cX9_init 89 = .ok (.aload_n 0, 1) := by decide +kernel
theorem dX9_init_90 : decode cX9_init 90 = .ok (.iconst 0, 1) := by decide +kernel
theorem dX9_init_91 : decode cX9_init 91 = .ok (.putfield 58, 3) := by decide +kernel
theorem dX9_init_94 : decode cX9_init 94 = .ok (.return_, 1) := by decide +kernel
theorem dX9_begin_0 : decode cX9_begin 0 = .ok (.iload_n 1, 1) := by decide +kernel
theorem dX9_begin_1 : decode cX9_begin 1 = .ok (.bipush 6, 2) := by decide +kernel
theorem dX9_begin_3 : decode cX9_begin 3 = .ok (.if_icmp .lt 9, 3) := by decide +kernel
theorem dX9_begin_6 : decode cX9_begin 6 = .ok (.iload_n 1, 1) := by decide +kernel
theorem dX9_begin_7 : decode cX9_begin 7 = .ok (.bipush 40, 2) := by decide +kernel
theorem dX9_begin_9 : decode cX9_begin 9 = .ok (.if_icmp .le 7, 3) := by decide +kernel
theorem dX9_begin_12 : decode cX9_begin 12 = .ok (.sipush (-1001), 3) := by decide +kernel
theorem dX9_begin_15 : decode cX9_begin 15 = .ok (.ireturn, 1) := by decide +kernel
theorem dX9_begin_16 : decode cX9_begin 16 = .ok (.aload_n 0, 1) := by decide +kernel
theorem dX9_begin_17 : decode cX9_begin 17 = .ok (.getfield 22, 3) := by decide +kernel
theorem dX9_begin_20 : decode cX9_begin 20 = .ok (.aload_n 0, 1) := by decide +kernel
theorem dX9_begin_21 : decode cX9_begin 21 = .ok (.getfield 10, 3) := by decide +kernel
theorem dX9_begin_24 : decode cX9_begin 24 = .ok (.invokevirtual 62, 3) := by decide +kernel
theorem dX9_begin_27 : decode cX9_begin 27 = .ok (.aload_n 0, 1) := by decide +kernel
theorem dX9_begin_28 : decode cX9_begin 28 = .ok (.getfield 10, 3) := by decide +kernel
theorem dX9_begin_31 : decode cX9_begin 31 = .ok (.getfield 66, 3) := by decide +kernel
theorem dX9_begin_34 : decode cX9_begin 34 = .ok (.getfield 70, 3) := by decide +kernel
theorem dX9_begin_37 : decode cX9_begin 37 = .ok (.istore_n 2, 1) := by decide +kernel
theorem dX9_begin_38 : decode cX9_begin 38 = .ok (.aload_n 0, 1) := by decide +kernel
theorem dX9_begin_39 : decode cX9_begin 39 = .ok (.getfield 10, 3) := by decide +kernel
theorem dX9_begin_42 : decode cX9_begin 42 = .ok (.getfield 66, 3) := by decide +kernel
theorem dX9_begin_45 : decode cX9_begin 45 = .ok (.iload_n 1, 1) := by decide +kernel
theorem dX9_begin_46 : decode cX9_begin 46 = .ok (.invokevirtual 75, 3) := by decide +kernel
theorem dX9_begin_49 : decode cX9_begin 49 = .ok (.aload_n 0, 1) := by decide +kernel
theorem dX9_begin_50 : decode cX9_begin 50 = .ok (.getfield 10, 3) := by decide +kernel
theorem dX9_begin_53 : decode cX9_begin 53 = .ok (.getfield 79, 3) := by decide +kernel
theorem dX9_begin_56 : decode cX9_begin 56 = .ok (.invokevirtual 83, 3) := by decide +kernel
theorem dX9_begin_59 : decode cX9_begin 59 = .ok (.iload_n 2, 1) := by decide +kernel
theorem dX9_begin_60 : decode cX9_begin 60 = .ok (.ireturn, 1) := by decide +kernel
theorem dX9_setNumber_0 : decode cX9_setNumber 0 = .ok (.aload_n 0, 1) := by decide +kernel
theorem dX9_setNumber_1 : decode cX9_setNumber 1 = .ok (.getfield 10, 3) := by decide +kernel
theorem dX9_setNumber_4 : decode cX9_setNumber 4 = .ok (.iload_n 1, 1) := by decide +kernel
theorem dX9_setNumber_5 : decode cX9_setNumber 5 = .ok (.invokevirtual 87, 3) := by decide +kernel
theorem dX9_setNumber_8 : decode cX9_setNumber 8 = .ok (.ifCond .eq 21, 3) := by decide +kernel
theorem dX9_setNumber_11 : decode cX9_setNumber 11 = .ok (.iload_n 2, 1) := by decide +kernel
theorem dX9_setNumber_12 : decode cX9_setNumber 12 = .ok (.getstatic 91, 3) := by decide +kernel
theorem dX9_setNumber_15 : decode cX9_setNumber 15 = .ok (.iload_n 1, 1) := by decide +kernel
theorem dX9_setNumber_16 : decode cX9_setNumber 16 = .ok (.iaload, 1) := by decide +kernel
theorem dX9_setNumber_17 : decode cX9_setNumber 17 = .ok (.if_icmp .lt 12, 3) := by decide +kernel
theorem dX9_setNumber_20 : decode cX9_setNumber 20 = .ok (.iload_n 2, 1) := by decide +kernel
theorem dX9_setNumber_21 : decode cX9_setNumber 21 = .ok (.getstatic 94, 3) := by decide +kernel
theorem dX9_setNumber_24 : decode cX9_setNumber 24 = .ok (.iload_n 1, 1) := by decide +kernel
theorem dX9_setNumber_25 : decode cX9_setNumber 25 = .ok (.iaload, 1) := by decide +kernel
theorem dX9_setNumber_26 : decode cX9_setNumber 26 = .ok (.if_icmp .le 7, 3) := by decide +kernel
theorem dX9_setNumber_29 : decode cX9_setNumber 29 = .ok (.sipush (-1001), 3) := by decide +kernel
theorem dX9_setNumber_32 : decode cX9_setNumber 32 = .ok (.ireturn, 1) := by decide +kernel
theorem dX9_setNumber_33 : decode cX9_setNumber 33 = .ok (.aload_n 0, 1) := by decide +kernel
theorem dX9_setNumber_34 : decode cX9_setNumber 34 = .ok (.getfield 22, 3) := by decide +kernel
theorem dX9_setNumber_37 : decode cX9_setNumber 37 = .ok (.aload_n 0, 1) := by decide +kernel
theorem dX9_setNumber_38 : decode cX9_setNumber 38 = .ok (.getfield 10, 3) := by decide +kernel
theorem dX9_setNumber_41 : decode cX9_setNumber 41 = .ok (.invokevirtual 62, 3) := by decide +kernel
theorem dX9_setNumber_44 : decode cX9_setNumber 44 = .ok (.aload_n 0, 1) := by decide +kernel
theorem dX9_setNumber_45 : decode cX9_setNumber 45 = .ok (.getfield 10, 3) := by decide +kernel
theorem dX9_setNumber_48 : decode cX9_setNumber 48 = .ok (.getfield 97, 3) := by decide +kernel
theorem dX9_setNumber_51 : decode cX9_setNumber 51 = .ok (.iload_n 1, 1) := by decide +kernel
theorem dX9_setNumber_52 : decode cX9_setNumber 52 = .ok (.iaload, 1) := by decide +kernel
theorem dX9_setNumber_53 : decode cX9_setNumber 53 = .ok (.istore_n 3, 1) := by decide +kernel
theorem dX9_setNumber_54 : decode cX9_setNumber 54 = .ok (.aload_n 0, 1) := by decide +kernel
theorem dX9_setNumber_55 : decode cX9_setNumber 55 = .ok (.getfield 10, 3) := by decide +kernel
theorem dX9_setNumber_58 : decode cX9_setNumber 58 = .ok (.getfield 97, 3) := by decide +kernel
theorem dX9_setNumber_61 : decode cX9_setNumber 61 = .ok (.iload_n 1, 1) := by decide +kernel
theorem dX9_setNumber_62 : decode cX9_setNumber 62 = .ok (.iload_n 2, 1) := by decide +kernel
theorem dX9_setNumber_63 : decode cX9_setNumber 63 = .ok (.iastore, 1) := by decide +kernel
theorem dX9_setNumber_64 : decode cX9_setNumber 64 = .ok (.iload_n 3, 1) := by decide +kernel
theorem dX9_setNumber_65 : decode cX9_setNumber 65 = .ok (.ireturn, 1) := by decide +kernel
theorem dX9_setColumn_0 : decode cX9_setColumn 0 = .ok (.iload_n 1, 1) := by decide +kernel
theorem dX9_setColumn_1 : decode cX9_setColumn 1 = .ok (.ifCond .lt 19, 3) := by decide +kernel
theorem dX9_setColumn_4 : decode cX9_setColumn 4 = .ok (.iload_n 1, 1) := by decide +kernel
theorem dX9_setColumn_5 : decode cX9_setColumn 5 = .ok (.bipush 26, 2) := by decide +kernel
theorem dX9_setColumn_7 : decode cX9_setColumn 7 = .ok (.if_icmp .ge 13, 3) := by decide +kernel
theorem dX9_setColumn_10 : decode cX9_setColumn 10 = .ok (.iload_n 3, 1) := by decide +kernel
theorem dX9_setColumn_11 : decode cX9_setColumn 11 = .ok (.ifCond .lt 9, 3) := by decide +kernel
theorem dX9_setColumn_14 : decode cX9_setColumn 14 = .ok (.iload_n 3, 1) := by decide +kernel
theorem dX9_setColumn_15 : decode cX9_setColumn 15 = .ok (.bipush 127, 2) := by decide +kernel
theorem dX9_setColumn_17 : decode cX9_setColumn 17 = .ok (.if_icmp .le 7, 3) := by decide +kernel
theorem dX9_setColumn_20 : decode cX9_setColumn 20 = .ok (.sipush (-1001), 3) := by decide +kernel
theorem dX9_setColumn_23 : decode cX9_setColumn 23 = .ok (.ireturn, 1) := by decide +kernel
theorem dX9_setColumn_24 : decode cX9_setColumn 24 = .ok (.iload_n 2, 1) := by decide +kernel
theorem dX9_setColumn_25 : decode cX9_setColumn 25 = .ok (.ifCond .lt 23, 3) := by decide +kernel
theorem dX9_setColumn_28 : decode cX9_setColumn 28 = .ok (.iload_n 2, 1) := by decide +kernel
theorem dX9_setColumn_29 : decode cX9_setColumn 29 = .ok (.iconst 5, 1) := by decide +kernel
theorem dX9_setColumn_30 : decode cX9_setColumn 30 = .ok (.if_icmp .ge 18, 3) := by decide +kernel
theorem dX9_setColumn_33 : decode cX9_setColumn 33 = .ok (.iload_n 2, 1) := by decide +kernel
theorem dX9_setColumn_34 : decode cX9_setColumn 34 = .ok (.aload_n 0, 1) := by decide +kernel
theorem dX9_setColumn_35 : decode cX9_setColumn 35 = .ok (.getfield 10, 3) := by decide +kernel
theorem dX9_setColumn_38 : decode cX9_setColumn 38 = .ok (.getfield 100, 3) := by decide +kernel
theorem dX9_setColumn_41 : decode cX9_setColumn 41 = .ok (.iload_n 1, 1) := by decide +kernel
theorem dX9_setColumn_42 : decode cX9_setColumn 42 = .ok (.invokevirtual 104, 3) := by decide +kernel
theorem dX9_setColumn_45 : decode cX9_setColumn 45 = .ok (.if_icmp .le 7, 3) := by decide +kernel
theorem dX9_setColumn_48 : decode cX9_setColumn 48 = .ok (.sipush (-1001), 3) := by decide +kernel
theorem dX9_setColumn_51 : decode cX9_setColumn 51 = .ok (.ireturn, 1) := by decide +kernel
theorem dX9_setColumn_52 : decode cX9_setColumn 52 = .ok (.aload_n 0, 1) := by decide +kernel
theorem dX9_setColumn_53 : decode cX9_setColumn 53 = .ok (.getfield 22, 3) := by decide +kernel
theorem dX9_setColumn_56 : decode cX9_setColumn 56 = .ok (.aload_n 0, 1) := by decide +kernel
theorem dX9_setColumn_57 : decode cX9_setColumn 57 = .ok (.getfield 10, 3) := by decide +kernel
theorem dX9_setColumn_60 : decode cX9_setColumn 60 = .ok (.invokevirtual 62, 3) := by decide +kernel
theorem dX9_setColumn_63 : decode cX9_setColumn 63 = .ok (.aload_n 0, 1) := by decide +kernel
theorem dX9_setColumn_64 : decode cX9_setColumn 64 = .ok (.getfield 10, 3) := by decide +kernel
theorem dX9_setColumn_67 : decode cX9_setColumn 67 = .ok (.getfield 100, 3) := by decide +kernel
theorem dX9_setColumn_70 : decode cX9_setColumn 70 = .ok (.iload_n 1, 1) := by decide +kernel
theorem dX9_setColumn_71 : decode cX9_setColumn 71 = .ok (.iload_n 2, 1) := by decide +kernel
theorem dX9_setColumn_72 : decode cX9_setColumn 72 = .ok (.iload_n 3, 1) := by decide +kernel
theorem dX9_setColumn_73 : decode cX9_setColumn 73 = .ok (.invokevirtual 110, 3) := by decide +kernel
theorem dX9_setColumn_76 : decode cX9_setColumn 76 = .ok (.aload_n 0, 1) := by decide +kernel
theorem dX9_setColumn_77 : decode cX9_setColumn 77 = .ok (.getfield 10, 3) := by decide +kernel
theorem dX9_setColumn_80 : decode cX9_setColumn 80 = .ok (.getfield 100, 3) := by decide +kernel
theorem dX9_setColumn_83 : decode cX9_setColumn 83 = .ok (.iload_n 1, 1) := by decide +kernel
theorem dX9_setColumn_84 : decode cX9_setColumn 84 = .ok (.invokevirtual 104, 3) := by decide +kernel
theorem dX9_setColumn_87 : decode cX9_setColumn 87 = .ok (.ireturn, 1) := by decide +kernel
theorem dX9_addMessage_0 : decode cX9_addMessage 0 = .ok (.iload_n 1, 1) := by decide +kernel
theorem dX9_addMessage_1 : decode cX9_addMessage 1 = .ok (.ifCond .lt 20, 3) := by decide +kernel
theorem dX9_addMessage_4 : decode cX9_addMessage 4 = .ok (.iload_n 1, 1) := by decide +kernel
theorem dX9_addMessage_5 : decode cX9_addMessage 5 = .ok (.bipush 26, 2) := by decide +kernel
theorem dX9_addMessage_7 : decode cX9_addMessage 7 = .ok (.if_icmp .gt 14, 3) := by decide +kernel
theorem dX9_addMessage_10 : decode cX9_addMessage 10 = .ok (.iload_n 2, 1) := by decide +kernel
theorem dX9_addMessage_11 : decode cX9_addMessage 11 = .ok (.iconst (-1), 1) := by decide +kernel
theorem dX9_addMessage_12 : decode cX9_addMessage 12 = .ok (.if_icmp .lt 9, 3) := by decide +kernel
theorem dX9_addMessage_15 : decode cX9_addMessage 15 = .ok (.iload_n 2, 1) := by decide +kernel
theorem dX9_addMessage_16 : decode cX9_addMessage 16 = .ok (.bipush 26, 2) := by decide +kernel
theorem dX9_addMessage_18 : decode cX9_addMessage 18 = .ok (.if_icmp .le 7, 3) := by decide +kernel
theorem dX9_addMessage_21 : decode cX9_addMessage 21 = .ok (.sipush (-1001), 3) := by decide +kernel
theorem dX9_addMessage_24 : decode cX9_addMessage 24 = .ok (.ireturn, 1) := by decide +kernel
theorem dX9_addMessage_25 : decode cX9_addMessage 25 = .ok (.aload_n 0, 1) := by decide +kernel
theorem dX9_addMessage_26 : decode cX9_addMessage 26 = .ok (.getfield 10, 3) := by decide +kernel
theorem dX9_addMessage_29 : decode cX9_addMessage 29 = .ok (.getfield 100, 3) := by decide +kernel
theorem dX9_addMessage_32 : decode cX9_addMessage 32 = .ok (.getfield 114, 3) := by decide +kernel
theorem dX9_addMessage_35 : decode cX9_addMessage 35 = .ok (.bipush 8, 2) := by decide +kernel
theorem dX9_addMessage_37 : decode cX9_addMessage 37 = .ok (.if_icmp .lt 7, 3) := by decide +kernel
theorem dX9_addMessage_40 : decode cX9_addMessage 40 = .ok (.sipush (-1003), 3) := by decide +kernel
theorem dX9_addMessage_43 : decode cX9_addMessage 43 = .ok (.ireturn, 1) := by decide +kernel
theorem dX9_addMessage_44 : decode cX9_addMessage 44 = .ok (.aload_n 0, 1) := by decide +kernel
theorem dX9_addMessage_45 : decode cX9_addMessage 45 = .ok (.getfield 22, 3) := by decide +kernel
theorem dX9_addMessage_48 : decode cX9_addMessage 48 = .ok (.aload_n 0, 1) := by decide +kernel
theorem dX9_addMessage_49 : decode cX9_addMessage 49 = .ok (.getfield 10, 3) := by decide +kernel
theorem dX9_addMessage_52 : decode cX9_addMessage 52 = .ok (.invokevirtual 62, 3) := by decide +kernel
theorem dX9_addMessage_55 : decode cX9_addMessage 55 = .ok (.aload_n 0, 1) := by decide +kernel
theorem dX9_addMessage_56 : decode cX9_addMessage 56 = .ok (.getfield 10, 3) := by decide +kernel
theorem dX9_addMessage_59 : decode cX9_addMessage 59 = .ok (.getfield 100, 3) := by decide +kernel
theorem dX9_addMessage_62 : decode cX9_addMessage 62 = .ok (.invokevirtual 117, 3) := by decide +kernel
theorem dX9_addMessage_65 : decode cX9_addMessage 65 = .ok (.aload_n 0, 1) := by decide +kernel
theorem dX9_addMessage_66 : decode cX9_addMessage 66 = .ok (.getfield 10, 3) := by decide +kernel
theorem dX9_addMessage_69 : decode cX9_addMessage 69 = .ok (.getfield 100, 3) := by decide +kernel
theorem dX9_addMessage_72 : decode cX9_addMessage 72 = .ok (.iload_n 1, 1) := by decide +kernel
theorem dX9_addMessage_73 : decode cX9_addMessage 73 = .ok (.invokevirtual 120, 3) := by decide +kernel
theorem dX9_addMessage_76 : decode cX9_addMessage 76 = .ok (.iload_n 2, 1) := by decide +kernel
theorem dX9_addMessage_77 : decode cX9_addMessage 77 = .ok (.iconst (-1), 1) := by decide +kernel
theorem dX9_addMessage_78 : decode cX9_addMessage 78 = .ok (.if_icmp .eq 14, 3) := by decide +kernel
theorem dX9_addMessage_81 : decode cX9_addMessage 81 = .ok (.aload_n 0, 1) := by decide +kernel
theorem dX9_addMessage_82 : decode cX9_addMessage 82 = .ok (.getfield 10, 3) := by decide +kernel
theorem dX9_addMessage_85 : decode cX9_addMessage 85 = .ok (.getfield 100, 3) := by decide +kernel
theorem dX9_addMessage_88 : decode cX9_addMessage 88 = .ok (.iload_n 2, 1) := by decide +kernel
theorem dX9_addMessage_89 : decode cX9_addMessage 89 = .ok (.invokevirtual 120, 3) := by decide +kernel
theorem dX9_addMessage_92 : decode cX9_addMessage 92 = .ok (.aload_n 0, 1) := by decide +kernel
theorem dX9_addMessage_93 : decode cX9_addMessage 93 = .ok (.getfield 10, 3) := by decide +kernel
theorem dX9_addMessage_96 : decode cX9_addMessage 96 = .ok (.getfield 100, 3) := by decide +kernel
theorem dX9_addMessage_99 : decode cX9_addMessage 99 = .ok (.getfield 114, 3) := by decide +kernel
theorem dX9_addMessage_102 : decode cX9_addMessage 102 = .ok (.iconst 1, 1) := by decide +kernel
theorem dX9_addMessage_103 : decode cX9_addMessage 103 = .ok (.isub, 1) := by decide +kernel
theorem dX9_addMessage_104 : decode cX9_addMessage 104 = .ok (.ireturn, 1) := by decide +kernel
theorem dX9_removeMessage_0 : decode cX9_removeMessage 0 = .ok (.aload_n 0, 1) := by decide +kernel
theorem dX9_removeMessage_1 : decode cX9_removeMessage 1 = .ok (.getfield 10, 3) := by decide +kernel
theorem dX9_removeMessage_4 : decode cX9_removeMessage 4 = .ok (.getfield 100, 3) := by decide +kernel
theorem dX9_removeMessage_7 : decode cX9_removeMessage 7 = .ok (.iload_n 1, 1) := by decide +kernel
theorem dX9_removeMessage_8 : decode cX9_removeMessage 8 = .ok (.invokevirtual 123, 3) := by decide +kernel
theorem dX9_removeMessage_11 : decode cX9_removeMessage 11 = .ok (.ifCond .ne 7, 3) := by decide +kernel
theorem dX9_removeMessage_14 : decode cX9_removeMessage 14 = .ok (.sipush (-1001), 3) := by decide +kernel
theorem dX9_removeMessage_17 : decode cX9_removeMessage 17 = .ok (.ireturn, 1) := by decide +kernel
theorem dX9_removeMessage_18 : decode cX9_removeMessage 18 = .ok (.aload_n 0, 1) := by decide +kernel
theorem dX9_removeMessage_19 : decode cX9_removeMessage 19 = .ok (.getfield 22, 3) := by decide +kernel
theorem dX9_removeMessage_22 : decode cX9_removeMessage 22 = .ok (.aload_n 0, 1) := by decide +kernel
theorem dX9_removeMessage_23 : decode cX9_removeMessage 23 = .ok (.getfield 10, 3) := by decide +kernel
theorem dX9_removeMessage_26 : decode cX9_removeMessage 26 = .ok (.invokevirtual 62, 3) := by decide +kernel
theorem dX9_removeMessage_29 : decode cX9_removeMessage 29 = .ok (.aload_n 0, 1) := by decide +kernel
theorem dX9_removeMessage_30 : decode cX9_removeMessage 30 = .ok (.getfield 10, 3) := by decide +kernel
theorem dX9_removeMessage_33 : decode cX9_removeMessage 33 = .ok (.getfield 100, 3) := by decide +kernel
theorem dX9_removeMessage_36 : decode cX9_removeMessage 36 = .ok (.iload_n 1, 1) := by decide +kernel
theorem dX9_removeMessage_37 : decode cX9_removeMessage 37 = .ok (.invokevirtual 126, 3) := by decide +kernel
theorem dX9_removeMessage_40 : decode cX9_removeMessage 40 = .ok (.aload_n 0, 1) := by decide +kernel
theorem dX9_removeMessage_41 : decode cX9_removeMessage 41 = .ok (.getfield 10, 3) := by decide +kernel
theorem dX9_removeMessage_44 : decode cX9_removeMessage 44 = .ok (.getfield 100, 3) := by decide +kernel
theorem dX9_removeMessage_47 : decode cX9_removeMessage 47 = .ok (.getfield 114, 3) := by decide +kernel
theorem dX9_removeMessage_50 : decode cX9_removeMessage 50 = .ok (.ireturn, 1) := by decide +kernel
theorem dX9_show_0 : decode cX9_show 0 = .ok (.aload_n 0, 1) := by decide +kernel
theorem dX9_show_1 : decode cX9_show 1 = .ok (.iload_n 1, 1) := by decide +kernel
theorem dX9_show_2 : decode cX9_show 2 = .ok (.iload_n 2, 1) := by decide +kernel
theorem dX9_show_3 : decode cX9_show 3 = .ok (.invokevirtual 143, 3) := by decide +kernel
theorem dX9_show_6 : decode cX9_show 6 = .ok (.ifCond .ne 7, 3) := by decide +kernel
theorem dX9_show_9 : decode cX9_show 9 = .ok (.sipush (-1001), 3) := by decide +kernel
theorem dX9_show_12 : decode cX9_show 12 = .ok (.ireturn, 1) := by decide +kernel
theorem dX9_show_13 : decode cX9_show 13 = .ok (.aload_n 0, 1) := by decide +kernel
theorem dX9_show_14 : decode cX9_show 14 = .ok (.getfield 22, 3) := by decide +kernel
theorem dX9_show_17 : decode cX9_show 17 = .ok (.aload_n 0, 1) := by decide +kernel
theorem dX9_show_18 : decode cX9_show 18 = .ok (.getfield 10, 3) := by decide +kernel
theorem dX9_show_21 : decode cX9_show 21 = .ok (.invokevirtual 62, 3) := by decide +kernel
theorem dX9_show_24 : decode cX9_show 24 = .ok (.aload_n 0, 1) := by decide +kernel
theorem dX9_show_25 : decode cX9_show 25 = .ok (.getfield 29, 3) := by decide +kernel
theorem dX9_show_28 : decode cX9_show 28 = .ok (.aload_n 0, 1) := by decide +kernel
theorem dX9_show_29 : decode cX9_show 29 = .ok (.getfield 10, 3) := by decide +kernel
theorem dX9_show_32 : decode cX9_show 32 = .ok (.iload_n 1, 1) := by decide +kernel
theorem dX9_show_33 : decode cX9_show 33 = .ok (.iload_n 2, 1) := by decide +kernel
theorem dX9_show_34 : decode cX9_show 34 = .ok (.invokevirtual 147, 3) := by decide +kernel
theorem dX9_show_37 : decode cX9_show 37 = .ok (.aload_n 0, 1) := by decide +kernel
theorem dX9_show_38 : decode cX9_show 38 = .ok (.getfield 10, 3) := by decide +kernel
theorem dX9_show_41 : decode cX9_show 41 = .ok (.getfield 66, 3) := by decide +kernel
theorem dX9_show_44 : decode cX9_show 44 = .ok (.aload_n 0, 1) := by decide +kernel
theorem dX9_show_45 : decode cX9_show 45 = .ok (.getfield 29, 3) := by decide +kernel
theorem dX9_show_48 : decode cX9_show 48 = .ok (.getfield 151, 3) := by decide +kernel
theorem dX9_show_51 : decode cX9_show 51 = .ok (.invokevirtual 154, 3) := by decide +kernel
theorem dX9_show_54 : decode cX9_show 54 = .ok (.aload_n 0, 1) := by decide +kernel
theorem dX9_show_55 : decode cX9_show 55 = .ok (.getfield 10, 3) := by decide +kernel
theorem dX9_show_58 : decode cX9_show 58 = .ok (.getfield 66, 3) := by decide +kernel
theorem dX9_show_61 : decode cX9_show 61 = .ok (.invokevirtual 158, 3) := by decide +kernel
theorem dX9_show_64 : decode cX9_show 64 = .ok (.ireturn, 1) := by decide +kernel
theorem dX9_darken_0 : decode cX9_darken 0 = .ok (.aload_n 0, 1) := by decide +kernel
theorem dX9_darken_1 : decode cX9_darken 1 = .ok (.getfield 22, 3) := by decide +kernel
theorem dX9_darken_4 : decode cX9_darken 4 = .ok (.aload_n 0, 1) := by decide +kernel
theorem dX9_darken_5 : decode cX9_darken 5 = .ok (.getfield 10, 3) := by decide +kernel
theorem dX9_darken_8 : decode cX9_darken 8 = .ok (.invokevirtual 62, 3) := by decide +kernel
theorem dX9_darken_11 : decode cX9_darken 11 = .ok (.aload_n 0, 1) := by decide +kernel
theorem dX9_darken_12 : decode cX9_darken 12 = .ok (.getfield 10, 3) := by decide +kernel
theorem dX9_darken_15 : decode cX9_darken 15 = .ok (.getfield 66, 3) := by decide +kernel
theorem dX9_darken_18 : decode cX9_darken 18 = .ok (.invokevirtual 162, 3) := by decide +kernel
theorem dX9_darken_21 : decode cX9_darken 21 = .ok (.aload_n 0, 1) := by decide +kernel
theorem dX9_darken_22 : decode cX9_darken 22 = .ok (.getfield 10, 3) := by decide +kernel
theorem dX9_darken_25 : decode cX9_darken 25 = .ok (.getfield 66, 3) := by decide +kernel
theorem dX9_darken_28 : decode cX9_darken 28 = .ok (.invokevirtual 158, 3) := by decide +kernel
theorem dX9_darken_31 : decode cX9_darken 31 = .ok (.ireturn, 1) := by decide +kernel
theorem dX9_jam_0 : decode cX9_jam 0 = .ok (.aload_n 0, 1) := by decide +kernel
theorem dX9_jam_1 : decode cX9_jam 1 = .ok (.getfield 10, 3) := by decide +kernel
theorem dX9_jam_4 : decode cX9_jam 4 = .ok (.getfield 66, 3) := by decide +kernel
theorem dX9_jam_7 : decode cX9_jam 7 = .ok (.iload_n 1, 1) := by decide +kernel
theorem dX9_jam_8 : decode cX9_jam 8 = .ok (.iload_n 2, 1) := by decide +kernel
theorem dX9_jam_9 : decode cX9_jam 9 = .ok (.invokevirtual 165, 3) := by decide +kernel
theorem dX9_jam_12 : decode cX9_jam 12 = .ok (.ifCond .ne 7, 3) := by decide +kernel
theorem dX9_jam_15 : decode cX9_jam 15 = .ok (.sipush (-1001), 3) := by decide +kernel
theorem dX9_jam_18 : decode cX9_jam 18 = .ok (.ireturn, 1) := by decide +kernel
theorem dX9_jam_19 : decode cX9_jam 19 = .ok (.aload_n 0, 1) := by decide +kernel
theorem dX9_jam_20 : decode cX9_jam 20 = .ok (.getfield 10, 3) := by decide +kernel
theorem dX9_jam_23 : decode cX9_jam 23 = .ok (.getfield 66, 3) := by decide +kernel
theorem dX9_jam_26 : decode cX9_jam 26 = .ok (.iload_n 1, 1) := by decide +kernel
theorem dX9_jam_27 : decode cX9_jam 27 = .ok (.iload_n 2, 1) := by decide +kernel
theorem dX9_jam_28 : decode cX9_jam 28 = .ok (.invokevirtual 168, 3) := by decide +kernel
theorem dX9_jam_31 : decode cX9_jam 31 = .ok (.ifCond .eq 7, 3) := by decide +kernel
theorem dX9_jam_34 : decode cX9_jam 34 = .ok (.sipush (-1002), 3) := by decide +kernel
theorem dX9_jam_37 : decode cX9_jam 37 = .ok (.ireturn, 1) := by decide +kernel
theorem dX9_jam_38 : decode cX9_jam 38 = .ok (.aload_n 0, 1) := by decide +kernel
theorem dX9_jam_39 : decode cX9_jam 39 = .ok (.getfield 22, 3) := by decide +kernel
theorem dX9_jam_42 : decode cX9_jam 42 = .ok (.aload_n 0, 1) := by decide +kernel
theorem dX9_jam_43 : decode cX9_jam 43 = .ok (.getfield 10, 3) := by decide +kernel
theorem dX9_jam_46 : decode cX9_jam 46 = .ok (.invokevirtual 62, 3) := by decide +kernel
theorem dX9_jam_49 : decode cX9_jam 49 = .ok (.aload_n 0, 1) := by decide +kernel
theorem dX9_jam_50 : decode cX9_jam 50 = .ok (.getfield 10, 3) := by decide +kernel
theorem dX9_jam_53 : decode cX9_jam 53 = .ok (.getfield 66, 3) := by decide +kernel
theorem dX9_jam_56 : decode cX9_jam 56 = .ok (.iload_n 1, 1) := by decide +kernel
theorem dX9_jam_57 : decode cX9_jam 57 = .ok (.iload_n 2, 1) := by decide +kernel
theorem dX9_jam_58 : decode cX9_jam 58 = .ok (.invokevirtual 171, 3) := by decide +kernel
theorem dX9_jam_61 : decode cX9_jam 61 = .ok (.aload_n 0, 1) := by decide +kernel
theorem dX9_jam_62 : decode cX9_jam 62 = .ok (.getfield 10, 3) := by decide +kernel
theorem dX9_jam_65 : decode cX9_jam 65 = .ok (.getfield 66, 3) := by decide +kernel
theorem dX9_jam_68 : decode cX9_jam 68 = .ok (.iload_n 1, 1) := by decide +kernel
theorem dX9_jam_69 : decode cX9_jam 69 = .ok (.iload_n 2, 1) := by decide +kernel
theorem dX9_jam_70 : decode cX9_jam 70 = .ok (.invokevirtual 175, 3) := by decide +kernel
theorem dX9_jam_73 : decode cX9_jam 73 = .ok (.ireturn, 1) := by decide +kernel
theorem dX9_mend_0 : decode cX9_mend 0 = .ok (.aload_n 0, 1) := by decide +kernel
theorem dX9_mend_1 : decode cX9_mend 1 = .ok (.getfield 10, 3) := by decide +kernel
theorem dX9_mend_4 : decode cX9_mend 4 = .ok (.getfield 66, 3) := by decide +kernel
theorem dX9_mend_7 : decode cX9_mend 7 = .ok (.iload_n 1, 1) := by decide +kernel
theorem dX9_mend_8 : decode cX9_mend 8 = .ok (.iload_n 2, 1) := by decide +kernel
theorem dX9_mend_9 : decode cX9_mend 9 = .ok (.invokevirtual 165, 3) := by decide +kernel
theorem dX9_mend_12 : decode cX9_mend 12 = .ok (.ifCond .ne 7, 3) := by decide +kernel
theorem dX9_mend_15 : decode cX9_mend 15 = .ok (.sipush (-1001), 3) := by decide +kernel
theorem dX9_mend_18 : decode cX9_mend 18 = .ok (.ireturn, 1) := by decide +kernel
theorem dX9_mend_19 : decode cX9_mend 19 = .ok (.aload_n 0, 1) := by decide +kernel
theorem dX9_mend_20 : decode cX9_mend 20 = .ok (.getfield 22, 3) := by decide +kernel
theorem dX9_mend_23 : decode cX9_mend 23 = .ok (.aload_n 0, 1) := by decide +kernel
theorem dX9_mend_24 : decode cX9_mend 24 = .ok (.getfield 10, 3) := by decide +kernel
theorem dX9_mend_27 : decode cX9_mend 27 = .ok (.invokevirtual 62, 3) := by decide +kernel
theorem dX9_mend_30 : decode cX9_mend 30 = .ok (.aload_n 0, 1) := by decide +kernel
theorem dX9_mend_31 : decode cX9_mend 31 = .ok (.getfield 10, 3) := by decide +kernel
theorem dX9_mend_34 : decode cX9_mend 34 = .ok (.getfield 66, 3) := by decide +kernel
theorem dX9_mend_37 : decode cX9_mend 37 = .ok (.iload_n 1, 1) := by decide +kernel
theorem dX9_mend_38 : decode cX9_mend 38 = .ok (.iload_n 2, 1) := by decide +kernel
theorem dX9_mend_39 : decode cX9_mend 39 = .ok (.invokevirtual 168, 3) := by decide +kernel
theorem dX9_mend_42 : decode cX9_mend 42 = .ok (.ifCond .eq 7, 3) := by decide +kernel
theorem dX9_mend_45 : decode cX9_mend 45 = .ok (.iconst 1, 1) := by decide +kernel
theorem dX9_mend_46 : decode cX9_mend 46 = .ok (.goto 4, 3) := by decide +kernel
theorem dX9_mend_49 : decode cX9_mend 49 = .ok (.iconst 0, 1) := by decide +kernel
theorem dX9_mend_50 : decode cX9_mend 50 = .ok (.istore_n 3, 1) := by decide +kernel
theorem dX9_mend_51 : decode cX9_mend 51 = .ok (.aload_n 0, 1) := by decide +kernel
theorem dX9_mend_52 : decode cX9_mend 52 = .ok (.getfield 10, 3) := by decide +kernel
theorem dX9_mend_55 : decode cX9_mend 55 = .ok (.getfield 66, 3) := by decide +kernel
theorem dX9_mend_58 : decode cX9_mend 58 = .ok (.iload_n 1, 1) := by decide +kernel
theorem dX9_mend_59 : decode cX9_mend 59 = .ok (.iload_n 2, 1) := by decide +kernel
theorem dX9_mend_60 : decode cX9_mend 60 = .ok (.invokevirtual 179, 3) := by decide +kernel
theorem dX9_mend_63 : decode cX9_mend 63 = .ok (.iload_n 3, 1) := by decide +kernel
theorem dX9_mend_64 : decode cX9_mend 64 = .ok (.ireturn, 1) := by decide +kernel
theorem dX9_pass_0 : decode cX9_pass 0 = .ok (.iload_n 1, 1) := by decide +kernel
theorem dX9_pass_1 : decode cX9_pass 1 = .ok (.iconst 1, 1) := by decide +kernel
theorem dX9_pass_2 : decode cX9_pass 2 = .ok (.if_icmp .lt 10, 3) := by decide +kernel
theorem dX9_pass_5 : decode cX9_pass 5 = .ok (.iload_n 1, 1) := by decide +kernel
theorem dX9_pass_6 : decode cX9_pass 6 = .ok (.sipush 200, 3) := by decide +kernel
theorem dX9_pass_9 : decode cX9_pass 9 = .ok (.if_icmp .le 7, 3) := by decide +kernel
theorem dX9_pass_12 : decode cX9_pass 12 = .ok (.sipush (-1001), 3) := by decide +kernel
theorem dX9_pass_15 : decode cX9_pass 15 = .ok (.ireturn, 1) := by decide +kernel
theorem dX9_pass_16 : decode cX9_pass 16 = .ok (.aload_n 0, 1) := by decide +kernel
theorem dX9_pass_17 : decode cX9_pass 17 = .ok (.getfield 22, 3) := by decide +kernel
theorem dX9_pass_20 : decode cX9_pass 20 = .ok (.aload_n 0, 1) := by decide +kernel
theorem dX9_pass_21 : decode cX9_pass 21 = .ok (.getfield 10, 3) := by decide +kernel
theorem dX9_pass_24 : decode cX9_pass 24 = .ok (.invokevirtual 62, 3) := by decide +kernel
theorem dX9_pass_27 : decode cX9_pass 27 = .ok (.iconst 0, 1) := by decide +kernel
theorem dX9_pass_28 : decode cX9_pass 28 = .ok (.istore_n 2, 1) := by decide +kernel
theorem dX9_pass_29 : decode cX9_pass 29 = .ok (.iload_n 2, 1) := by decide +kernel
theorem dX9_pass_30 : decode cX9_pass 30 = .ok (.iload_n 1, 1) := by decide +kernel
theorem dX9_pass_31 : decode cX9_pass 31 = .ok (.if_icmp .ge 20, 3) := by decide +kernel
theorem dX9_pass_34 : decode cX9_pass 34 = .ok (.aload_n 0, 1) := by decide +kernel
theorem dX9_pass_35 : decode cX9_pass 35 = .ok (.getfield 36, 3) := by decide +kernel
theorem dX9_pass_38 : decode cX9_pass 38 = .ok (.aload_n 0, 1) := by decide +kernel
theorem dX9_pass_39 : decode cX9_pass 39 = .ok (.getfield 10, 3) := by decide +kernel
theorem dX9_pass_42 : decode cX9_pass 42 = .ok (.invokevirtual 182, 3) := by decide +kernel
theorem dX9_pass_45 : decode cX9_pass 45 = .ok (.iinc 2 1, 3) := by decide +kernel
theorem dX9_pass_48 : decode cX9_pass 48 = .ok (.goto (-19), 3) := by decide +kernel
theorem dX9_pass_51 : decode cX9_pass 51 = .ok (.aload_n 0, 1) := by decide +kernel
theorem dX9_pass_52 : decode cX9_pass 52 = .ok (.getfield 10, 3) := by decide +kernel
theorem dX9_pass_55 : decode cX9_pass 55 = .ok (.getfield 66, 3) := by decide +kernel
theorem dX9_pass_58 : decode cX9_pass 58 = .ok (.invokevirtual 158, 3) := by decide +kernel
theorem dX9_pass_61 : decode cX9_pass 61 = .ok (.ireturn, 1) := by decide +kernel
theorem dX9_count_0 : decode cX9_count 0 = .ok (.iload_n 1, 1) := by decide +kernel
theorem dX9_count_1 : decode cX9_count 1 = .ok (.tableswitch 228 0 14 #[75, 86, 96, 106, 116, 127, 138, 149, 160, 171, 182, 193, 204, 215, 220], 75) := by decide +kernel
theorem dX9_count_76 : decode cX9_count 76 = .ok (.aload_n 0, 1) := by decide +kernel
theorem dX9_count_77 : decode cX9_count 77 = .ok (.getfield 10, 3) := by decide +kernel
theorem dX9_count_80 : decode cX9_count 80 = .ok (.getfield 66, 3) := by decide +kernel
theorem dX9_count_83 : decode cX9_count 83 = .ok (.getfield 70, 3) := by decide +kernel
theorem dX9_count_86 : decode cX9_count 86 = .ok (.ireturn, 1) := by decide +kernel
theorem dX9_count_87 : decode cX9_count 87 = .ok (.aload_n 0, 1) := by decide +kernel
theorem dX9_count_88 : decode cX9_count 88 = .ok (.getfield 10, 3) := by decide +kernel
theorem dX9_count_91 : decode cX9_count 91 = .ok (.getfield 97, 3) := by decide +kernel
theorem dX9_count_94 : decode cX9_count 94 = .ok (.iconst 0, 1) := by decide +kernel
theorem dX9_count_95 : decode cX9_count 95 = .ok (.iaload, 1) := by decide +kernel
theorem dX9_count_96 : decode cX9_count 96 = .ok (.ireturn, 1) := by decide +kernel
theorem dX9_count_97 : decode cX9_count 97 = .ok (.aload_n 0, 1) := by decide +kernel
theorem dX9_count_98 : decode cX9_count 98 = .ok (.getfield 10, 3) := by decide +kernel
theorem dX9_count_101 : decode cX9_count 101 = .ok (.getfield 97, 3) := by decide +kernel
theorem dX9_count_104 : decode cX9_count 104 = .ok (.iconst 1, 1) := by decide +kernel
theorem dX9_count_105 : decode cX9_count 105 = .ok (.iaload, 1) := by decide +kernel
theorem dX9_count_106 : decode cX9_count 106 = .ok (.ireturn, 1) := by decide +kernel
theorem dX9_count_107 : decode cX9_count 107 = .ok (.aload_n 0, 1) := by decide +kernel
theorem dX9_count_108 : decode cX9_count 108 = .ok (.getfield 10, 3) := by decide +kernel
theorem dX9_count_111 : decode cX9_count 111 = .ok (.getfield 97, 3) := by decide +kernel
theorem dX9_count_114 : decode cX9_count 114 = .ok (.iconst 2, 1) := by decide +kernel
theorem dX9_count_115 : decode cX9_count 115 = .ok (.iaload, 1) := by decide +kernel
theorem dX9_count_116 : decode cX9_count 116 = .ok (.ireturn, 1) := by decide +kernel
theorem dX9_count_117 : decode cX9_count 117 = .ok (.aload_n 0, 1) := by decide +kernel
theorem dX9_count_118 : decode cX9_count 118 = .ok (.getfield 10, 3) := by decide +kernel
theorem dX9_count_121 : decode cX9_count 121 = .ok (.getfield 100, 3) := by decide +kernel
theorem dX9_count_124 : decode cX9_count 124 = .ok (.getfield 114, 3) := by decide +kernel
theorem dX9_count_127 : decode cX9_count 127 = .ok (.ireturn, 1) := by decide +kernel
theorem dX9_count_128 : decode cX9_count 128 = .ok (.aload_n 0, 1) := by decide +kernel
theorem dX9_count_129 : decode cX9_count 129 = .ok (.getfield 10, 3) := by decide +kernel
theorem dX9_count_132 : decode cX9_count 132 = .ok (.getfield 66, 3) := by decide +kernel
theorem dX9_count_135 : decode cX9_count 135 = .ok (.invokevirtual 158, 3) := by decide +kernel
theorem dX9_count_138 : decode cX9_count 138 = .ok (.ireturn, 1) := by decide +kernel
theorem dX9_count_139 : decode cX9_count 139 = .ok (.aload_n 0, 1) := by decide +kernel
theorem dX9_count_140 : decode cX9_count 140 = .ok (.getfield 10, 3) := by decide +kernel
theorem dX9_count_143 : decode cX9_count 143 = .ok (.getfield 66, 3) := by decide +kernel
theorem dX9_count_146 : decode cX9_count 146 = .ok (.invokevirtual 185, 3) := by decide +kernel
theorem dX9_count_149 : decode cX9_count 149 = .ok (.ireturn, 1) := by decide +kernel
theorem dX9_count_150 : decode cX9_count 150 = .ok (.aload_n 0, 1) := by decide +kernel
theorem dX9_count_151 : decode cX9_count 151 = .ok (.getfield 10, 3) := by decide +kernel
theorem dX9_count_154 : decode cX9_count 154 = .ok (.getfield 66, 3) := by decide +kernel
theorem dX9_count_157 : decode cX9_count 157 = .ok (.invokevirtual 188, 3) := by decide +kernel
theorem dX9_count_160 : decode cX9_count 160 = .ok (.ireturn, 1) := by decide +kernel
theorem dX9_count_161 : decode cX9_count 161 = .ok (.aload_n 0, 1) := by decide +kernel
theorem dX9_count_162 : decode cX9_count 162 = .ok (.getfield 10, 3) := by decide +kernel
theorem dX9_count_165 : decode cX9_count 165 = .ok (.getfield 66, 3) := by decide +kernel
theorem dX9_count_168 : decode cX9_count 168 = .ok (.invokevirtual 191, 3) := by decide +kernel
theorem dX9_count_171 : decode cX9_count 171 = .ok (.ireturn, 1) := by decide +kernel
theorem dX9_count_172 : decode cX9_count 172 = .ok (.aload_n 0, 1) := by decide +kernel
theorem dX9_count_173 : decode cX9_count 173 = .ok (.getfield 10, 3) := by decide +kernel
theorem dX9_count_176 : decode cX9_count 176 = .ok (.getfield 79, 3) := by decide +kernel
theorem dX9_count_179 : decode cX9_count 179 = .ok (.getfield 194, 3) := by decide +kernel
theorem dX9_count_182 : decode cX9_count 182 = .ok (.ireturn, 1) := by decide +kernel
theorem dX9_count_183 : decode cX9_count 183 = .ok (.aload_n 0, 1) := by decide +kernel
theorem dX9_count_184 : decode cX9_count 184 = .ok (.getfield 10, 3) := by decide +kernel
theorem dX9_count_187 : decode cX9_count 187 = .ok (.getfield 79, 3) := by decide +kernel
theorem dX9_count_190 : decode cX9_count 190 = .ok (.getfield 197, 3) := by decide +kernel
theorem dX9_count_193 : decode cX9_count 193 = .ok (.ireturn, 1) := by decide +kernel
theorem dX9_count_194 : decode cX9_count 194 = .ok (.aload_n 0, 1) := by decide +kernel
theorem dX9_count_195 : decode cX9_count 195 = .ok (.getfield 10, 3) := by decide +kernel
theorem dX9_count_198 : decode cX9_count 198 = .ok (.getfield 79, 3) := by decide +kernel
theorem dX9_count_201 : decode cX9_count 201 = .ok (.getfield 200, 3) := by decide +kernel
theorem dX9_count_204 : decode cX9_count 204 = .ok (.ireturn, 1) := by decide +kernel
theorem dX9_count_205 : decode cX9_count 205 = .ok (.aload_n 0, 1) := by decide +kernel
theorem dX9_count_206 : decode cX9_count 206 = .ok (.getfield 10, 3) := by decide +kernel
theorem dX9_count_209 : decode cX9_count 209 = .ok (.getfield 79, 3) := by decide +kernel
theorem dX9_count_212 : decode cX9_count 212 = .ok (.getfield 203, 3) := by decide +kernel
theorem dX9_count_215 : decode cX9_count 215 = .ok (.ireturn, 1) := by decide +kernel
theorem dX9_count_216 : decode cX9_count 216 = .ok (.aload_n 0, 1) := by decide +kernel
theorem dX9_count_217 : decode cX9_count 217 = .ok (.getfield 58, 3) := by decide +kernel
theorem dX9_count_220 : decode cX9_count 220 = .ok (.ireturn, 1) := by decide +kernel
theorem dX9_count_221 : decode cX9_count 221 = .ok (.aload_n 0, 1) := by decide +kernel
theorem dX9_count_222 : decode cX9_count 222 = .ok (.getfield 22, 3) := by decide +kernel
theorem dX9_count_225 : decode cX9_count 225 = .ok (.getfield 206, 3) := by decide +kernel
theorem dX9_count_228 : decode cX9_count 228 = .ok (.ireturn, 1) := by decide +kernel
theorem dX9_count_229 : decode cX9_count 229 = .ok (.sipush (-1001), 3) := by decide +kernel
theorem dX9_count_232 : decode cX9_count 232 = .ok (.ireturn, 1) := by decide +kernel
theorem dX9_column_0 : decode cX9_column 0 = .ok (.aload_n 0, 1) := by decide +kernel
theorem dX9_column_1 : decode cX9_column 1 = .ok (.getfield 10, 3) := by decide +kernel
theorem dX9_column_4 : decode cX9_column 4 = .ok (.getfield 66, 3) := by decide +kernel
theorem dX9_column_7 : decode cX9_column 7 = .ok (.iload_n 1, 1) := by decide +kernel
theorem dX9_column_8 : decode cX9_column 8 = .ok (.invokevirtual 209, 3) := by decide +kernel
theorem dX9_column_11 : decode cX9_column 11 = .ok (.ifCond .ne 7, 3) := by decide +kernel
theorem dX9_column_14 : decode cX9_column 14 = .ok (.sipush (-1001), 3) := by decide +kernel
theorem dX9_column_17 : decode cX9_column 17 = .ok (.ireturn, 1) := by decide +kernel
theorem dX9_column_18 : decode cX9_column 18 = .ok (.iload_n 2, 1) := by decide +kernel
theorem dX9_column_19 : decode cX9_column 19 = .ok (.tableswitch 81 0 3 #[29, 42, 55, 68], 29) := by decide +kernel
theorem dX9_column_48 : decode cX9_column 48 = .ok (.aload_n 0, 1) := by decide +kernel
theorem dX9_column_49 : decode cX9_column 49 = .ok (.getfield 10, 3) := by decide +kernel
theorem dX9_column_52 : decode cX9_column 52 = .ok (.getfield 66, 3) := by decide +kernel
theorem dX9_column_55 : decode cX9_column 55 = .ok (.getfield 212, 3) := by decide +kernel
theorem dX9_column_58 : decode cX9_column 58 = .ok (.iload_n 1, 1) := by decide +kernel
theorem dX9_column_59 : decode cX9_column 59 = .ok (.iaload, 1) := by decide +kernel
theorem dX9_column_60 : decode cX9_column 60 = .ok (.ireturn, 1) := by decide +kernel
theorem dX9_column_61 : decode cX9_column 61 = .ok (.aload_n 0, 1) := by decide +kernel
theorem dX9_column_62 : decode cX9_column 62 = .ok (.getfield 10, 3) := by decide +kernel
theorem dX9_column_65 : decode cX9_column 65 = .ok (.getfield 66, 3) := by decide +kernel
theorem dX9_column_68 : decode cX9_column 68 = .ok (.getfield 215, 3) := by decide +kernel
theorem dX9_column_71 : decode cX9_column 71 = .ok (.iload_n 1, 1) := by decide +kernel
theorem dX9_column_72 : decode cX9_column 72 = .ok (.iaload, 1) := by decide +kernel
theorem dX9_column_73 : decode cX9_column 73 = .ok (.ireturn, 1) := by decide +kernel
theorem dX9_column_74 : decode cX9_column 74 = .ok (.aload_n 0, 1) := by decide +kernel
theorem dX9_column_75 : decode cX9_column 75 = .ok (.getfield 10, 3) := by decide +kernel
theorem dX9_column_78 : decode cX9_column 78 = .ok (.getfield 66, 3) := by decide +kernel
theorem dX9_column_81 : decode cX9_column 81 = .ok (.getfield 218, 3) := by decide +kernel
theorem dX9_column_84 : decode cX9_column 84 = .ok (.iload_n 1, 1) := by decide +kernel
theorem dX9_column_85 : decode cX9_column 85 = .ok (.iaload, 1) := by decide +kernel
theorem dX9_column_86 : decode cX9_column 86 = .ok (.ireturn, 1) := by decide +kernel
theorem dX9_column_87 : decode cX9_column 87 = .ok (.aload_n 0, 1) := by decide +kernel
theorem dX9_column_88 : decode cX9_column 88 = .ok (.getfield 10, 3) := by decide +kernel
theorem dX9_column_91 : decode cX9_column 91 = .ok (.getfield 66, 3) := by decide +kernel
theorem dX9_column_94 : decode cX9_column 94 = .ok (.getfield 221, 3) := by decide +kernel
theorem dX9_column_97 : decode cX9_column 97 = .ok (.iload_n 1, 1) := by decide +kernel
theorem dX9_column_98 : decode cX9_column 98 = .ok (.iaload, 1) := by decide +kernel
theorem dX9_column_99 : decode cX9_column 99 = .ok (.ireturn, 1) := by decide +kernel
theorem dX9_column_100 : decode cX9_column 100 = .ok (.sipush (-1001), 3) := by decide +kernel
theorem dX9_column_103 : decode cX9_column 103 = .ok (.ireturn, 1) := by decide +kernel
theorem dX9_flips_0 : decode cX9_flips 0 = .ok (.aload_n 0, 1) := by decide +kernel
theorem dX9_flips_1 : decode cX9_flips 1 = .ok (.getfield 10, 3) := by decide +kernel
theorem dX9_flips_4 : decode cX9_flips 4 = .ok (.getfield 66, 3) := by decide +kernel
theorem dX9_flips_7 : decode cX9_flips 7 = .ok (.iload_n 1, 1) := by decide +kernel
theorem dX9_flips_8 : decode cX9_flips 8 = .ok (.iload_n 2, 1) := by decide +kernel
theorem dX9_flips_9 : decode cX9_flips 9 = .ok (.invokevirtual 165, 3) := by decide +kernel
theorem dX9_flips_12 : decode cX9_flips 12 = .ok (.ifCond .ne 7, 3) := by decide +kernel
theorem dX9_flips_15 : decode cX9_flips 15 = .ok (.sipush (-1001), 3) := by decide +kernel
theorem dX9_flips_18 : decode cX9_flips 18 = .ok (.ireturn, 1) := by decide +kernel
theorem dX9_flips_19 : decode cX9_flips 19 = .ok (.aload_n 0, 1) := by decide +kernel
theorem dX9_flips_20 : decode cX9_flips 20 = .ok (.getfield 10, 3) := by decide +kernel
theorem dX9_flips_23 : decode cX9_flips 23 = .ok (.getfield 66, 3) := by decide +kernel
theorem dX9_flips_26 : decode cX9_flips 26 = .ok (.iload_n 1, 1) := by decide +kernel
theorem dX9_flips_27 : decode cX9_flips 27 = .ok (.iload_n 2, 1) := by decide +kernel
theorem dX9_flips_28 : decode cX9_flips 28 = .ok (.invokevirtual 175, 3) := by decide +kernel
theorem dX9_flips_31 : decode cX9_flips 31 = .ok (.ireturn, 1) := by decide +kernel
theorem dX9_letter_0 : decode cX9_letter 0 = .ok (.iload_n 1, 1) := by decide +kernel
theorem dX9_letter_1 : decode cX9_letter 1 = .ok (.ifCond .lt 13, 3) := by decide +kernel
theorem dX9_letter_4 : decode cX9_letter 4 = .ok (.iload_n 1, 1) := by decide +kernel
theorem dX9_letter_5 : decode cX9_letter 5 = .ok (.bipush 26, 2) := by decide +kernel
theorem dX9_letter_7 : decode cX9_letter 7 = .ok (.if_icmp .ge 7, 3) := by decide +kernel
theorem dX9_letter_10 : decode cX9_letter 10 = .ok (.iload_n 2, 1) := by decide +kernel
theorem dX9_letter_11 : decode cX9_letter 11 = .ok (.ifCond .ge 7, 3) := by decide +kernel
theorem dX9_letter_14 : decode cX9_letter 14 = .ok (.sipush (-1001), 3) := by decide +kernel
theorem dX9_letter_17 : decode cX9_letter 17 = .ok (.ireturn, 1) := by decide +kernel
theorem dX9_letter_18 : decode cX9_letter 18 = .ok (.iload_n 2, 1) := by decide +kernel
theorem dX9_letter_19 : decode cX9_letter 19 = .ok (.aload_n 0, 1) := by decide +kernel
theorem dX9_letter_20 : decode cX9_letter 20 = .ok (.getfield 10, 3) := by decide +kernel
theorem dX9_letter_23 : decode cX9_letter 23 = .ok (.getfield 100, 3) := by decide +kernel
theorem dX9_letter_26 : decode cX9_letter 26 = .ok (.iload_n 1, 1) := by decide +kernel
theorem dX9_letter_27 : decode cX9_letter 27 = .ok (.invokevirtual 104, 3) := by decide +kernel
theorem dX9_letter_30 : decode cX9_letter 30 = .ok (.if_icmp .lt 7, 3) := by decide +kernel
theorem dX9_letter_33 : decode cX9_letter 33 = .ok (.sipush (-1009), 3) := by decide +kernel
theorem dX9_letter_36 : decode cX9_letter 36 = .ok (.ireturn, 1) := by decide +kernel
theorem dX9_letter_37 : decode cX9_letter 37 = .ok (.aload_n 0, 1) := by decide +kernel
theorem dX9_letter_38 : decode cX9_letter 38 = .ok (.getfield 10, 3) := by decide +kernel
theorem dX9_letter_41 : decode cX9_letter 41 = .ok (.getfield 100, 3) := by decide +kernel
theorem dX9_letter_44 : decode cX9_letter 44 = .ok (.iload_n 1, 1) := by decide +kernel
theorem dX9_letter_45 : decode cX9_letter 45 = .ok (.iload_n 2, 1) := by decide +kernel
theorem dX9_letter_46 : decode cX9_letter 46 = .ok (.invokevirtual 224, 3) := by decide +kernel
theorem dX9_letter_49 : decode cX9_letter 49 = .ok (.ireturn, 1) := by decide +kernel
theorem dX9_message_0 : decode cX9_message 0 = .ok (.aload_n 0, 1) := by decide +kernel
theorem dX9_message_1 : decode cX9_message 1 = .ok (.getfield 10, 3) := by decide +kernel
theorem dX9_message_4 : decode cX9_message 4 = .ok (.getfield 100, 3) := by decide +kernel
theorem dX9_message_7 : decode cX9_message 7 = .ok (.iload_n 1, 1) := by decide +kernel
theorem dX9_message_8 : decode cX9_message 8 = .ok (.invokevirtual 123, 3) := by decide +kernel
theorem dX9_message_11 : decode cX9_message 11 = .ok (.ifCond .eq 7, 3) := by decide +kernel
theorem dX9_message_14 : decode cX9_message 14 = .ok (.iload_n 2, 1) := by decide +kernel
theorem dX9_message_15 : decode cX9_message 15 = .ok (.ifCond .ge 7, 3) := by decide +kernel
theorem dX9_message_18 : decode cX9_message 18 = .ok (.sipush (-1001), 3) := by decide +kernel
theorem dX9_message_21 : decode cX9_message 21 = .ok (.ireturn, 1) := by decide +kernel
theorem dX9_message_22 : decode cX9_message 22 = .ok (.iload_n 2, 1) := by decide +kernel
theorem dX9_message_23 : decode cX9_message 23 = .ok (.aload_n 0, 1) := by decide +kernel
theorem dX9_message_24 : decode cX9_message 24 = .ok (.getfield 10, 3) := by decide +kernel
theorem dX9_message_27 : decode cX9_message 27 = .ok (.getfield 100, 3) := by decide +kernel
theorem dX9_message_30 : decode cX9_message 30 = .ok (.iload_n 1, 1) := by decide +kernel
theorem dX9_message_31 : decode cX9_message 31 = .ok (.invokevirtual 227, 3) := by decide +kernel
theorem dX9_message_34 : decode cX9_message 34 = .ok (.if_icmp .lt 7, 3) := by decide +kernel
theorem dX9_message_37 : decode cX9_message 37 = .ok (.sipush (-1009), 3) := by decide +kernel
theorem dX9_message_40 : decode cX9_message 40 = .ok (.ireturn, 1) := by decide +kernel
theorem dX9_message_41 : decode cX9_message 41 = .ok (.aload_n 0, 1) := by decide +kernel
theorem dX9_message_42 : decode cX9_message 42 = .ok (.getfield 10, 3) := by decide +kernel
theorem dX9_message_45 : decode cX9_message 45 = .ok (.getfield 100, 3) := by decide +kernel
theorem dX9_message_48 : decode cX9_message 48 = .ok (.iload_n 1, 1) := by decide +kernel
theorem dX9_message_49 : decode cX9_message 49 = .ok (.iload_n 2, 1) := by decide +kernel
theorem dX9_message_50 : decode cX9_message 50 = .ok (.invokevirtual 230, 3) := by decide +kernel
theorem dX9_message_53 : decode cX9_message 53 = .ok (.ireturn, 1) := by decide +kernel
theorem dX9_strip_0 : decode cX9_strip 0 = .ok (.aload_n 0, 1) := by decide +kernel
theorem dX9_strip_1 : decode cX9_strip 1 = .ok (.getfield 10, 3) := by decide +kernel
theorem dX9_strip_4 : decode cX9_strip 4 = .ok (.getfield 100, 3) := by decide +kernel
theorem dX9_strip_7 : decode cX9_strip 7 = .ok (.iload_n 1, 1) := by decide +kernel
theorem dX9_strip_8 : decode cX9_strip 8 = .ok (.invokevirtual 123, 3) := by decide +kernel
theorem dX9_strip_11 : decode cX9_strip 11 = .ok (.ifCond .ne 7, 3) := by decide +kernel
theorem dX9_strip_14 : decode cX9_strip 14 = .ok (.sipush (-1001), 3) := by decide +kernel
theorem dX9_strip_17 : decode cX9_strip 17 = .ok (.ireturn, 1) := by decide +kernel
theorem dX9_strip_18 : decode cX9_strip 18 = .ok (.aload_n 0, 1) := by decide +kernel
theorem dX9_strip_19 : decode cX9_strip 19 = .ok (.getfield 10, 3) := by decide +kernel
theorem dX9_strip_22 : decode cX9_strip 22 = .ok (.getfield 100, 3) := by decide +kernel
theorem dX9_strip_25 : decode cX9_strip 25 = .ok (.iload_n 1, 1) := by decide +kernel
theorem dX9_strip_26 : decode cX9_strip 26 = .ok (.invokevirtual 233, 3) := by decide +kernel
theorem dX9_strip_29 : decode cX9_strip 29 = .ok (.ireturn, 1) := by decide +kernel
theorem dX9_power_0 : decode cX9_power 0 = .ok (.iload_n 1, 1) := by decide +kernel
theorem dX9_power_1 : decode cX9_power 1 = .ok (.iconst 1, 1) := by decide +kernel
theorem dX9_power_2 : decode cX9_power 2 = .ok (.if_icmp .lt 9, 3) := by decide +kernel
theorem dX9_power_5 : decode cX9_power 5 = .ok (.iload_n 1, 1) := by decide +kernel
theorem dX9_power_6 : decode cX9_power 6 = .ok (.bipush 20, 2) := by decide +kernel
theorem dX9_power_8 : decode cX9_power 8 = .ok (.if_icmp .le 7, 3) := by decide +kernel
theorem dX9_power_11 : decode cX9_power 11 = .ok (.sipush (-1001), 3) := by decide +kernel
theorem dX9_power_14 : decode cX9_power 14 = .ok (.ireturn, 1) := by decide +kernel
theorem dX9_power_15 : decode cX9_power 15 = .ok (.iload_n 1, 1) := by decide +kernel
theorem dX9_power_16 : decode cX9_power 16 = .ok (.aload_n 0, 1) := by decide +kernel
theorem dX9_power_17 : decode cX9_power 17 = .ok (.getfield 10, 3) := by decide +kernel
theorem dX9_power_20 : decode cX9_power 20 = .ok (.getfield 79, 3) := by decide +kernel
theorem dX9_power_23 : decode cX9_power 23 = .ok (.getfield 203, 3) := by decide +kernel
theorem dX9_power_26 : decode cX9_power 26 = .ok (.if_icmp .le 7, 3) := by decide +kernel
theorem dX9_power_29 : decode cX9_power 29 = .ok (.sipush (-1009), 3) := by decide +kernel
theorem dX9_power_32 : decode cX9_power 32 = .ok (.ireturn, 1) := by decide +kernel
theorem dX9_power_33 : decode cX9_power 33 = .ok (.aload_n 0, 1) := by decide +kernel
theorem dX9_power_34 : decode cX9_power 34 = .ok (.getfield 10, 3) := by decide +kernel
theorem dX9_power_37 : decode cX9_power 37 = .ok (.getfield 79, 3) := by decide +kernel
theorem dX9_power_40 : decode cX9_power 40 = .ok (.iload_n 1, 1) := by decide +kernel
theorem dX9_power_41 : decode cX9_power 41 = .ok (.invokevirtual 240, 3) := by decide +kernel
theorem dX9_power_44 : decode cX9_power 44 = .ok (.ireturn, 1) := by decide +kernel
theorem dX9_canShow_0 : decode cX9_canShow 0 = .ok (.aload_n 0, 1) := by decide +kernel
theorem dX9_canShow_1 : decode cX9_canShow 1 = .ok (.getfield 10, 3) := by decide +kernel
theorem dX9_canShow_4 : decode cX9_canShow 4 = .ok (.getfield 100, 3) := by decide +kernel
theorem dX9_canShow_7 : decode cX9_canShow 7 = .ok (.iload_n 1, 1) := by decide +kernel
theorem dX9_canShow_8 : decode cX9_canShow 8 = .ok (.invokevirtual 123, 3) := by decide +kernel
theorem dX9_canShow_11 : decode cX9_canShow 11 = .ok (.ifCond .eq 16, 3) := by decide +kernel
theorem dX9_canShow_14 : decode cX9_canShow 14 = .ok (.iload_n 2, 1) := by decide +kernel
theorem dX9_canShow_15 : decode cX9_canShow 15 = .ok (.ifCond .lt 12, 3) := by decide +kernel
theorem dX9_canShow_18 : decode cX9_canShow 18 = .ok (.iload_n 2, 1) := by decide +kernel
theorem dX9_canShow_19 : decode cX9_canShow 19 = .ok (.iconst 1, 1) := by decide +kernel
theorem dX9_canShow_20 : decode cX9_canShow 20 = .ok (.if_icmp .gt 7, 3) := by decide +kernel
theorem dX9_canShow_23 : decode cX9_canShow 23 = .ok (.iconst 1, 1) := by decide +kernel
theorem dX9_canShow_24 : decode cX9_canShow 24 = .ok (.goto 4, 3) := by decide +kernel
theorem dX9_canShow_27 : decode cX9_canShow 27 = .ok (.iconst 0, 1) := by decide +kernel
theorem dX9_canShow_28 : decode cX9_canShow 28 = .ok (.ireturn, 1) := by decide +kernel
theorem dX9_copy_0 : decode cX9_copy 0 = .ok (.aload_n 0, 1) := by decide +kernel
theorem dX9_copy_1 : decode cX9_copy 1 = .ok (.iconst 0, 1) := by decide +kernel
theorem dX9_copy_2 : decode cX9_copy 2 = .ok (.aload_n 1, 1) := by decide +kernel
theorem dX9_copy_3 : decode cX9_copy 3 = .ok (.iconst 0, 1) := by decide +kernel
theorem dX9_copy_4 : decode cX9_copy 4 = .ok (.aload_n 0, 1) := by decide +kernel
theorem dX9_copy_5 : decode cX9_copy 5 = .ok (.arraylength, 1) := by decide +kernel
theorem dX9_copy_6 : decode cX9_copy 6 = .ok (.aload_n 1, 1) := by decide +kernel
theorem dX9_copy_7 : decode cX9_copy 7 = .ok (.arraylength, 1) := by decide +kernel
theorem dX9_copy_8 : decode cX9_copy 8 = .ok (.invokestatic 277, 3) := by decide +kernel
theorem dX9_copy_11 : decode cX9_copy 11 = .ok (.invokestatic 282, 3) := by decide +kernel
theorem dX9_copy_14 : decode cX9_copy 14 = .ok (.return_, 1) := by decide +kernel
theorem dJ6_bitCount_0f7a4_0 : decode cJ6_bitCount_0f7a4 0 = .ok (.iload_n 0, 1) := by decide +kernel
theorem dJ6_bitCount_0f7a4_1 : decode cJ6_bitCount_0f7a4 1 = .ok (.iload_n 0, 1) := by decide +kernel
theorem dJ6_bitCount_0f7a4_2 : decode cJ6_bitCount_0f7a4 2 = .ok (.iconst 1, 1) := by decide +kernel
theorem dJ6_bitCount_0f7a4_3 : decode cJ6_bitCount_0f7a4 3 = .ok (.iushr, 1) := by decide +kernel
theorem dJ6_bitCount_0f7a4_4 : decode cJ6_bitCount_0f7a4 4 = .ok (.ldc_w 265, 3) := by decide +kernel
theorem dJ6_bitCount_0f7a4_7 : decode cJ6_bitCount_0f7a4 7 = .ok (.iand, 1) := by decide +kernel
theorem dJ6_bitCount_0f7a4_8 : decode cJ6_bitCount_0f7a4 8 = .ok (.isub, 1) := by decide +kernel
theorem dJ6_bitCount_0f7a4_9 : decode cJ6_bitCount_0f7a4 9 = .ok (.istore_n 0, 1) := by decide +kernel
theorem dJ6_bitCount_0f7a4_10 : decode cJ6_bitCount_0f7a4 10 = .ok (.iload_n 0, 1) := by decide +kernel
theorem dJ6_bitCount_0f7a4_11 : decode cJ6_bitCount_0f7a4 11 = .ok (.ldc_w 266, 3) := by decide +kernel
theorem dJ6_bitCount_0f7a4_14 : decode cJ6_bitCount_0f7a4 14 = .ok (.iand, 1) := by decide +kernel
theorem dJ6_bitCount_0f7a4_15 : decode cJ6_bitCount_0f7a4 15 = .ok (.iload_n 0, 1) := by decide +kernel
theorem dJ6_bitCount_0f7a4_16 : decode cJ6_bitCount_0f7a4 16 = .ok (.iconst 2, 1) := by decide +kernel
theorem dJ6_bitCount_0f7a4_17 : decode cJ6_bitCount_0f7a4 17 = .ok (.iushr, 1) := by decide +kernel
theorem dJ6_bitCount_0f7a4_18 : decode cJ6_bitCount_0f7a4 18 = .ok (.ldc_w 266, 3) := by decide +kernel
theorem dJ6_bitCount_0f7a4_21 : decode cJ6_bitCount_0f7a4 21 = .ok (.iand, 1) := by decide +kernel
theorem dJ6_bitCount_0f7a4_22 : decode cJ6_bitCount_0f7a4 22 = .ok (.iadd, 1) := by decide +kernel
theorem dJ6_bitCount_0f7a4_23 : decode cJ6_bitCount_0f7a4 23 = .ok (.istore_n 0, 1) := by decide +kernel
theorem dJ6_bitCount_0f7a4_24 : decode cJ6_bitCount_0f7a4 24 = .ok (.iload_n 0, 1) := by decide +kernel
theorem dJ6_bitCount_0f7a4_25 : decode cJ6_bitCount_0f7a4 25 = .ok (.iload_n 0, 1) := by decide +kernel
theorem dJ6_bitCount_0f7a4_26 : decode cJ6_bitCount_0f7a4 26 = .ok (.iconst 4, 1) := by decide +kernel
theorem dJ6_bitCount_0f7a4_27 : decode cJ6_bitCount_0f7a4 27 = .ok (.iushr, 1) := by decide +kernel
theorem dJ6_bitCount_0f7a4_28 : decode cJ6_bitCount_0f7a4 28 = .ok (.iadd, 1) := by decide +kernel
theorem dJ6_bitCount_0f7a4_29 : decode cJ6_bitCount_0f7a4 29 = .ok (.ldc_w 267, 3) := by decide +kernel
theorem dJ6_bitCount_0f7a4_32 : decode cJ6_bitCount_0f7a4 32 = .ok (.iand, 1) := by decide +kernel
theorem dJ6_bitCount_0f7a4_33 : decode cJ6_bitCount_0f7a4 33 = .ok (.istore_n 0, 1) := by decide +kernel
theorem dJ6_bitCount_0f7a4_34 : decode cJ6_bitCount_0f7a4 34 = .ok (.iload_n 0, 1) := by decide +kernel
theorem dJ6_bitCount_0f7a4_35 : decode cJ6_bitCount_0f7a4 35 = .ok (.iload_n 0, 1) := by decide +kernel
theorem dJ6_bitCount_0f7a4_36 : decode cJ6_bitCount_0f7a4 36 = .ok (.bipush 8, 2) := by decide +kernel
theorem dJ6_bitCount_0f7a4_38 : decode cJ6_bitCount_0f7a4 38 = .ok (.iushr, 1) := by decide +kernel
theorem dJ6_bitCount_0f7a4_39 : decode cJ6_bitCount_0f7a4 39 = .ok (.iadd, 1) := by decide +kernel
theorem dJ6_bitCount_0f7a4_40 : decode cJ6_bitCount_0f7a4 40 = .ok (.istore_n 0, 1) := by decide +kernel
theorem dJ6_bitCount_0f7a4_41 : decode cJ6_bitCount_0f7a4 41 = .ok (.iload_n 0, 1) := by decide +kernel
theorem dJ6_bitCount_0f7a4_42 : decode cJ6_bitCount_0f7a4 42 = .ok (.iload_n 0, 1) := by decide +kernel
theorem dJ6_bitCount_0f7a4_43 : decode cJ6_bitCount_0f7a4 43 = .ok (.bipush 16, 2) := by decide +kernel
theorem dJ6_bitCount_0f7a4_45 : decode cJ6_bitCount_0f7a4 45 = .ok (.iushr, 1) := by decide +kernel
theorem dJ6_bitCount_0f7a4_46 : decode cJ6_bitCount_0f7a4 46 = .ok (.iadd, 1) := by decide +kernel
theorem dJ6_bitCount_0f7a4_47 : decode cJ6_bitCount_0f7a4 47 = .ok (.istore_n 0, 1) := by decide +kernel
theorem dJ6_bitCount_0f7a4_48 : decode cJ6_bitCount_0f7a4 48 = .ok (.iload_n 0, 1) := by decide +kernel
theorem dJ6_bitCount_0f7a4_49 : decode cJ6_bitCount_0f7a4 49 = .ok (.bipush 63, 2) := by decide +kernel
theorem dJ6_bitCount_0f7a4_51 : decode cJ6_bitCount_0f7a4 51 = .ok (.iand, 1) := by decide +kernel
theorem dJ6_bitCount_0f7a4_52 : decode cJ6_bitCount_0f7a4 52 = .ok (.ireturn, 1) := by decide +kernel
theorem dJ9_floorMod_7cf53_0 : decode cJ9_floorMod_7cf53 0 = .ok (.iload_n 0, 1) := by decide +kernel
theorem dJ9_floorMod_7cf53_1 : decode cJ9_floorMod_7cf53 1 = .ok (.iload_n 1, 1) := by decide +kernel
theorem dJ9_floorMod_7cf53_2 : decode cJ9_floorMod_7cf53 2 = .ok (.irem, 1) := by decide +kernel
theorem dJ9_floorMod_7cf53_3 : decode cJ9_floorMod_7cf53 3 = .ok (.istore_n 2, 1) := by decide +kernel
theorem dJ9_floorMod_7cf53_4 : decode cJ9_floorMod_7cf53 4 = .ok (.iload_n 0, 1) := by decide +kernel
theorem dJ9_floorMod_7cf53_5 : decode cJ9_floorMod_7cf53 5 = .ok (.iload_n 1, 1) := by decide +kernel
theorem dJ9_floorMod_7cf53_6 : decode cJ9_floorMod_7cf53 6 = .ok (.ixor, 1) := by decide +kernel
theorem dJ9_floorMod_7cf53_7 : decode cJ9_floorMod_7cf53 7 = .ok (.ifCond .ge 11, 3) := by decide +kernel
theorem dJ9_floorMod_7cf53_10 : decode cJ9_floorMod_7cf53 10 = .ok (.iload_n 2, 1) := by decide +kernel
theorem dJ9_floorMod_7cf53_11 : decode cJ9_floorMod_7cf53 11 = .ok (.ifCond .eq 7, 3) := by decide +kernel
theorem dJ9_floorMod_7cf53_14 : decode cJ9_floorMod_7cf53 14 = .ok (.iload_n 2, 1) := by decide +kernel
theorem dJ9_floorMod_7cf53_15 : decode cJ9_floorMod_7cf53 15 = .ok (.iload_n 1, 1) := by decide +kernel
theorem dJ9_floorMod_7cf53_16 : decode cJ9_floorMod_7cf53 16 = .ok (.iadd, 1) := by decide +kernel
theorem dJ9_floorMod_7cf53_17 : decode cJ9_floorMod_7cf53 17 = .ok (.ireturn, 1) := by decide +kernel
theorem dJ9_floorMod_7cf53_18 : decode cJ9_floorMod_7cf53 18 = .ok (.iload_n 2, 1) := by decide +kernel
theorem dJ9_floorMod_7cf53_19 : decode cJ9_floorMod_7cf53 19 = .ok (.ireturn, 1) := by decide +kernel
theorem dJ9_max_7cf53_0 : decode cJ9_max_7cf53 0 = .ok (.iload_n 0, 1) := by decide +kernel
theorem dJ9_max_7cf53_1 : decode cJ9_max_7cf53 1 = .ok (.iload_n 1, 1) := by decide +kernel
theorem dJ9_max_7cf53_2 : decode cJ9_max_7cf53 2 = .ok (.if_icmp .lt 7, 3) := by decide +kernel
theorem dJ9_max_7cf53_5 : decode cJ9_max_7cf53 5 = .ok (.iload_n 0, 1) := by decide +kernel
theorem dJ9_max_7cf53_6 : decode cJ9_max_7cf53 6 = .ok (.goto 4, 3) := by decide +kernel
theorem dJ9_max_7cf53_9 : decode cJ9_max_7cf53 9 = .ok (.iload_n 1, 1) := by decide +kernel
theorem dJ9_max_7cf53_10 : decode cJ9_max_7cf53 10 = .ok (.ireturn, 1) := by decide +kernel
theorem dJ9_min_7cf53_0 : decode cJ9_min_7cf53 0 = .ok (.iload_n 0, 1) := by decide +kernel
theorem dJ9_min_7cf53_1 : decode cJ9_min_7cf53 1 = .ok (.iload_n 1, 1) := by decide +kernel
theorem dJ9_min_7cf53_2 : decode cJ9_min_7cf53 2 = .ok (.if_icmp .gt 7, 3) := by decide +kernel
theorem dJ9_min_7cf53_5 : decode cJ9_min_7cf53 5 = .ok (.iload_n 0, 1) := by decide +kernel
theorem dJ9_min_7cf53_6 : decode cJ9_min_7cf53 6 = .ok (.goto 4, 3) := by decide +kernel
theorem dJ9_min_7cf53_9 : decode cJ9_min_7cf53 9 = .ok (.iload_n 1, 1) := by decide +kernel
theorem dJ9_min_7cf53_10 : decode cJ9_min_7cf53 10 = .ok (.ireturn, 1) := by decide +kernel
theorem dJ7_fill_53178_0 : decode cJ7_fill_53178 0 = .ok (.iconst 0, 1) := by decide +kernel
theorem dJ7_fill_53178_1 : decode cJ7_fill_53178 1 = .ok (.istore_n 2, 1) := by decide +kernel
theorem dJ7_fill_53178_2 : decode cJ7_fill_53178 2 = .ok (.aload_n 0, 1) := by decide +kernel
theorem dJ7_fill_53178_3 : decode cJ7_fill_53178 3 = .ok (.arraylength, 1) := by decide +kernel
theorem dJ7_fill_53178_4 : decode cJ7_fill_53178 4 = .ok (.istore_n 3, 1) := by decide +kernel
theorem dJ7_fill_53178_5 : decode cJ7_fill_53178 5 = .ok (.iload_n 2, 1) := by decide +kernel
theorem dJ7_fill_53178_6 : decode cJ7_fill_53178 6 = .ok (.iload_n 3, 1) := by decide +kernel
theorem dJ7_fill_53178_7 : decode cJ7_fill_53178 7 = .ok (.if_icmp .ge 13, 3) := by decide +kernel
theorem dJ7_fill_53178_10 : decode cJ7_fill_53178 10 = .ok (.aload_n 0, 1) := by decide +kernel
theorem dJ7_fill_53178_11 : decode cJ7_fill_53178 11 = .ok (.iload_n 2, 1) := by decide +kernel
theorem dJ7_fill_53178_12 : decode cJ7_fill_53178 12 = .ok (.iload_n 1, 1) := by decide +kernel
theorem dJ7_fill_53178_13 : decode cJ7_fill_53178 13 = .ok (.iastore, 1) := by decide +kernel
theorem dJ7_fill_53178_14 : decode cJ7_fill_53178 14 = .ok (.iinc 2 1, 3) := by decide +kernel
theorem dJ7_fill_53178_17 : decode cJ7_fill_53178 17 = .ok (.goto (-12), 3) := by decide +kernel
theorem dJ7_fill_53178_20 : decode cJ7_fill_53178 20 = .ok (.return_, 1) := by decide +kernel
end
section
theorem dL_cell_0 : decode cL_cell 0 = .ok (.iload_n 1, 1) := by decide +kernel
theorem dL_cell_1 : decode cL_cell 1 = .ok (.aload_n 0, 1) := by decide +kernel
theorem dL_cell_2 : decode cL_cell 2 = .ok (.arraylength, 1) := by decide +kernel
theorem dL_cell_3 : decode cL_cell 3 = .ok (.if_icmp .ge 9, 3) := by decide +kernel
theorem dL_cell_6 : decode cL_cell 6 = .ok (.aload_n 0, 1) := by decide +kernel
theorem dL_cell_7 : decode cL_cell 7 = .ok (.iload_n 1, 1) := by decide +kernel
theorem dL_cell_8 : decode cL_cell 8 = .ok (.iaload, 1) := by decide +kernel
theorem dL_cell_9 : decode cL_cell 9 = .ok (.goto 9, 3) := by decide +kernel
theorem dL_cell_12 : decode cL_cell 12 = .ok (.ldc 7, 2) := by decide +kernel
theorem dL_cell_14 : decode cL_cell 14 = .ok (.iload_n 1, 1) := by decide +kernel
theorem dL_cell_15 : decode cL_cell 15 = .ok (.iconst 3, 1) := by decide +kernel
theorem dL_cell_16 : decode cL_cell 16 = .ok (.iadd, 1) := by decide +kernel
theorem dL_cell_17 : decode cL_cell 17 = .ok (.imul, 1) := by decide +kernel
theorem dL_cell_18 : decode cL_cell 18 = .ok (.ireturn, 1) := by decide +kernel
theorem dL_low_0 : decode cL_low 0 = .ok (.iload_n 0, 1) := by decide +kernel
theorem dL_low_1 : decode cL_low 1 = .ok (.ldc 8, 2) := by decide +kernel
theorem dL_low_3 : decode cL_low 3 = .ok (.iand, 1) := by decide +kernel
theorem dL_low_4 : decode cL_low 4 = .ok (.iload_n 1, 1) := by decide +kernel
theorem dL_low_5 : decode cL_low 5 = .ok (.irem, 1) := by decide +kernel
theorem dL_low_6 : decode cL_low 6 = .ok (.ireturn, 1) := by decide +kernel
theorem dL_bits_0 : decode cL_bits 0 = .ok (.iconst 0, 1) := by decide +kernel
theorem dL_bits_1 : decode cL_bits 1 = .ok (.istore_n 1, 1) := by decide +kernel
theorem dL_bits_2 : decode cL_bits 2 = .ok (.iload_n 0, 1) := by decide +kernel
theorem dL_bits_3 : decode cL_bits 3 = .ok (.istore_n 2, 1) := by decide +kernel
theorem dL_bits_4 : decode cL_bits 4 = .ok (.iload_n 2, 1) := by decide +kernel
theorem dL_bits_5 : decode cL_bits 5 = .ok (.ifCond .le 15, 3) := by decide +kernel
theorem dL_bits_8 : decode cL_bits 8 = .ok (.iinc 1 1, 3) := by decide +kernel
theorem dL_bits_11 : decode cL_bits 11 = .ok (.iload_n 2, 1) := by decide +kernel
theorem dL_bits_12 : decode cL_bits 12 = .ok (.iload_n 2, 1) := by decide +kernel
theorem dL_bits_13 : decode cL_bits 13 = .ok (.iconst 1, 1) := by decide +kernel
theorem dL_bits_14 : decode cL_bits 14 = .ok (.isub, 1) := by decide +kernel
theorem dL_bits_15 : decode cL_bits 15 = .ok (.iand, 1) := by decide +kernel
theorem dL_bits_16 : decode cL_bits 16 = .ok (.istore_n 2, 1) := by decide +kernel
theorem dL_bits_17 : decode cL_bits 17 = .ok (.goto (-13), 3) := by decide +kernel
theorem dL_bits_20 : decode cL_bits 20 = .ok (.iload_n 1, 1) := by decide +kernel
theorem dL_bits_21 : decode cL_bits 21 = .ok (.ireturn, 1) := by decide +kernel
theorem dL_strip_0 : decode cL_strip 0 = .ok (.aload_n 1, 1) := by decide +kernel
theorem dL_strip_1 : decode cL_strip 1 = .ok (.bipush 13, 2) := by decide +kernel
theorem dL_strip_3 : decode cL_strip 3 = .ok (.iload_n 2, 1) := by decide +kernel
theorem dL_strip_4 : decode cL_strip 4 = .ok (.imul, 1) := by decide +kernel
theorem dL_strip_5 : decode cL_strip 5 = .ok (.iaload, 1) := by decide +kernel
theorem dL_strip_6 : decode cL_strip 6 = .ok (.iconst 1, 1) := by decide +kernel
theorem dL_strip_7 : decode cL_strip 7 = .ok (.isub, 1) := by decide +kernel
theorem dL_strip_8 : decode cL_strip 8 = .ok (.istore_n 3, 1) := by decide +kernel
theorem dL_strip_9 : decode cL_strip 9 = .ok (.iconst 1, 1) := by decide +kernel
theorem dL_strip_10 : decode cL_strip 10 = .ok (.istore 4, 2) := by decide +kernel
theorem dL_strip_12 : decode cL_strip 12 = .ok (.iload 4, 2) := by decide +kernel
theorem dL_strip_14 : decode cL_strip 14 = .ok (.aload_n 1, 1) := by decide +kernel
theorem dL_strip_15 : decode cL_strip 15 = .ok (.bipush 13, 2) := by decide +kernel
theorem dL_strip_17 : decode cL_strip 17 = .ok (.iload_n 2, 1) := by decide +kernel
theorem dL_strip_18 : decode cL_strip 18 = .ok (.imul, 1) := by decide +kernel
theorem dL_strip_19 : decode cL_strip 19 = .ok (.iaload, 1) := by decide +kernel
theorem dL_strip_20 : decode cL_strip 20 = .ok (.if_icmp .gt 44, 3) := by decide +kernel
theorem dL_strip_23 : decode cL_strip 23 = .ok (.iload_n 3, 1) := by decide +kernel
theorem dL_strip_24 : decode cL_strip 24 = .ok (.aload_n 1, 1) := by decide +kernel
theorem dL_strip_25 : decode cL_strip 25 = .ok (.bipush 13, 2) := by decide +kernel
theorem dL_strip_27 : decode cL_strip 27 = .ok (.iload_n 2, 1) := by decide +kernel
theorem dL_strip_28 : decode cL_strip 28 = .ok (.imul, 1) := by decide +kernel
theorem dL_strip_29 : decode cL_strip 29 = .ok (.iload 4, 2) := by decide +kernel
theorem dL_strip_31 : decode cL_strip 31 = .ok (.iadd, 1) := by decide +kernel
theorem dL_strip_32 : decode cL_strip 32 = .ok (.iaload, 1) := by decide +kernel
theorem dL_strip_33 : decode cL_strip 33 = .ok (.bipush 26, 2) := by decide +kernel
theorem dL_strip_35 : decode cL_strip 35 = .ok (.if_icmp .ne 7, 3) := by decide +kernel
theorem dL_strip_38 : decode cL_strip 38 = .ok (.iconst 2, 1) := by decide +kernel
theorem dL_strip_39 : decode cL_strip 39 = .ok (.goto 17, 3) := by decide +kernel
theorem dL_strip_42 : decode cL_strip 42 = .ok (.aload_n 0, 1) := by decide +kernel
theorem dL_strip_43 : decode cL_strip 43 = .ok (.bipush 6, 2) := by decide +kernel
theorem dL_strip_45 : decode cL_strip 45 = .ok (.aload_n 1, 1) := by decide +kernel
theorem dL_strip_46 : decode cL_strip 46 = .ok (.bipush 13, 2) := by decide +kernel
theorem dL_strip_48 : decode cL_strip 48 = .ok (.iload_n 2, 1) := by decide +kernel
theorem dL_strip_49 : decode cL_strip 49 = .ok (.imul, 1) := by decide +kernel
theorem dL_strip_50 : decode cL_strip 50 = .ok (.iload 4, 2) := by decide +kernel
theorem dL_strip_52 : decode cL_strip 52 = .ok (.iadd, 1) := by decide +kernel
theorem dL_strip_53 : decode cL_strip 53 = .ok (.iaload, 1) := by decide +kernel
theorem dL_strip_54 : decode cL_strip 54 = .ok (.imul, 1) := by decide +kernel
theorem dL_strip_55 : decode cL_strip 55 = .ok (.iaload, 1) := by decide +kernel
theorem dL_strip_56 : decode cL_strip 56 = .ok (.iadd, 1) := by decide +kernel
theorem dL_strip_57 : decode cL_strip 57 = .ok (.istore_n 3, 1) := by decide +kernel
theorem dL_strip_58 : decode cL_strip 58 = .ok (.iinc 4 1, 3) := by decide +kernel
theorem dL_strip_61 : decode cL_strip 61 = .ok (.goto (-49), 3) := by decide +kernel
theorem dL_strip_64 : decode cL_strip 64 = .ok (.iload_n 3, 1) := by decide +kernel
theorem dL_strip_65 : decode cL_strip 65 = .ok (.ireturn, 1) := by decide +kernel
theorem dL_picture_0 : decode cL_picture 0 = .ok (.aload_n 1, 1) := by decide +kernel
theorem dL_picture_1 : decode cL_picture 1 = .ok (.aload_n 2, 1) := by decide +kernel
theorem dL_picture_2 : decode cL_picture 2 = .ok (.iload_n 3, 1) := by decide +kernel
theorem dL_picture_3 : decode cL_picture 3 = .ok (.invokestatic 9, 3) := by decide +kernel
theorem dL_picture_6 : decode cL_picture 6 = .ok (.istore 6, 2) := by decide +kernel
theorem dL_picture_8 : decode cL_picture 8 = .ok (.iload 5, 2) := by decide +kernel
theorem dL_picture_10 : decode cL_picture 10 = .ok (.iload 4, 2) := by decide +kernel
theorem dL_picture_12 : decode cL_picture 12 = .ok (.isub, 1) := by decide +kernel
theorem dL_picture_13 : decode cL_picture 13 = .ok (.iload 6, 2) := by decide +kernel
theorem dL_picture_15 : decode cL_picture 15 = .ok (.aload_n 0, 1) := by decide +kernel
theorem dL_picture_16 : decode cL_picture 16 = .ok (.iconst 0, 1) := by decide +kernel
theorem dL_picture_17 : decode cL_picture 17 = .ok (.iaload, 1) := by decide +kernel
theorem dL_picture_18 : decode cL_picture 18 = .ok (.if_icmp .le 7, 3) := by decide +kernel
theorem dL_picture_21 : decode cL_picture 21 = .ok (.iconst 0, 1) := by decide +kernel
theorem dL_picture_22 : decode cL_picture 22 = .ok (.goto 11, 3) := by decide +kernel
theorem dL_picture_25 : decode cL_picture 25 = .ok (.aload_n 0, 1) := by decide +kernel
theorem dL_picture_26 : decode cL_picture 26 = .ok (.iconst 0, 1) := by decide +kernel
theorem dL_picture_27 : decode cL_picture 27 = .ok (.iaload, 1) := by decide +kernel
theorem dL_picture_28 : decode cL_picture 28 = .ok (.iload 6, 2) := by decide +kernel
theorem dL_picture_30 : decode cL_picture 30 = .ok (.isub, 1) := by decide +kernel
theorem dL_picture_31 : decode cL_picture 31 = .ok (.iconst 2, 1) := by decide +kernel
theorem dL_picture_32 : decode cL_picture 32 = .ok (.idiv, 1) := by decide +kernel
theorem dL_picture_33 : decode cL_picture 33 = .ok (.isub, 1) := by decide +kernel
theorem dL_picture_34 : decode cL_picture 34 = .ok (.istore 7, 2) := by decide +kernel
theorem dL_picture_36 : decode cL_picture 36 = .ok (.iconst 1, 1) := by decide +kernel
theorem dL_picture_37 : decode cL_picture 37 = .ok (.istore 8, 2) := by decide +kernel
theorem dL_picture_39 : decode cL_picture 39 = .ok (.iload 8, 2) := by decide +kernel
theorem dL_picture_41 : decode cL_picture 41 = .ok (.aload_n 2, 1) := by decide +kernel
theorem dL_picture_42 : decode cL_picture 42 = .ok (.bipush 13, 2) := by decide +kernel
theorem dL_picture_44 : decode cL_picture 44 = .ok (.iload_n 3, 1) := by decide +kernel
theorem dL_picture_45 : decode cL_picture 45 = .ok (.imul, 1) := by decide +kernel
theorem dL_picture_46 : decode cL_picture 46 = .ok (.iaload, 1) := by decide +kernel
theorem dL_picture_47 : decode cL_picture 47 = .ok (.if_icmp .gt 85, 3) := by decide +kernel
theorem dL_picture_50 : decode cL_picture 50 = .ok (.iload 7, 2) := by decide +kernel
theorem dL_picture_52 : decode cL_picture 52 = .ok (.ifCond .lt 80, 3) := by decide +kernel
theorem dL_picture_55 : decode cL_picture 55 = .ok (.aload_n 2, 1) := by decide +kernel
theorem dL_picture_56 : decode cL_picture 56 = .ok (.bipush 13, 2) := by decide +kernel
theorem dL_picture_58 : decode cL_picture 58 = .ok (.iload_n 3, 1) := by decide +kernel
theorem dL_picture_59 : decode cL_picture 59 = .ok (.imul, 1) := by decide +kernel
theorem dL_picture_60 : decode cL_picture 60 = .ok (.iload 8, 2) := by decide +kernel
theorem dL_picture_62 : decode cL_picture 62 = .ok (.iadd, 1) := by decide +kernel
theorem dL_picture_63 : decode cL_picture 63 = .ok (.iaload, 1) := by decide +kernel
theorem dL_picture_64 : decode cL_picture 64 = .ok (.istore 9, 2) := by decide +kernel
theorem dL_picture_66 : decode cL_picture 66 = .ok (.iload 9, 2) := by decide +kernel
theorem dL_picture_68 : decode cL_picture 68 = .ok (.bipush 26, 2) := by decide +kernel
theorem dL_picture_70 : decode cL_picture 70 = .ok (.if_icmp .ne 7, 3) := by decide +kernel
theorem dL_picture_73 : decode cL_picture 73 = .ok (.iconst 2, 1) := by decide +kernel
theorem dL_picture_74 : decode cL_picture 74 = .ok (.goto 10, 3) := by decide +kernel
theorem dL_picture_77 : decode cL_picture 77 = .ok (.aload_n 1, 1) := by decide +kernel
theorem dL_picture_78 : decode cL_picture 78 = .ok (.bipush 6, 2) := by decide +kernel
theorem dL_picture_80 : decode cL_picture 80 = .ok (.iload 9, 2) := by decide +kernel
theorem dL_picture_82 : decode cL_picture 82 = .ok (.imul, 1) := by decide +kernel
theorem dL_picture_83 : decode cL_picture 83 = .ok (.iaload, 1) := by decide +kernel
theorem dL_picture_84 : decode cL_picture 84 = .ok (.istore 10, 2) := by decide +kernel
theorem dL_picture_86 : decode cL_picture 86 = .ok (.iload 7, 2) := by decide +kernel
theorem dL_picture_88 : decode cL_picture 88 = .ok (.iload 10, 2) := by decide +kernel
theorem dL_picture_90 : decode cL_picture 90 = .ok (.if_icmp .ge 27, 3) := by decide +kernel
theorem dL_picture_93 : decode cL_picture 93 = .ok (.iload 9, 2) := by decide +kernel
theorem dL_picture_95 : decode cL_picture 95 = .ok (.bipush 26, 2) := by decide +kernel
theorem dL_picture_97 : decode cL_picture 97 = .ok (.if_icmp .ne 7, 3) := by decide +kernel
theorem dL_picture_100 : decode cL_picture 100 = .ok (.iconst 0, 1) := by decide +kernel
theorem dL_picture_101 : decode cL_picture 101 = .ok (.goto 15, 3) := by decide +kernel
theorem dL_picture_104 : decode cL_picture 104 = .ok (.aload_n 1, 1) := by decide +kernel
theorem dL_picture_105 : decode cL_picture 105 = .ok (.bipush 6, 2) := by decide +kernel
theorem dL_picture_107 : decode cL_picture 107 = .ok (.iload 9, 2) := by decide +kernel
theorem dL_picture_109 : decode cL_picture 109 = .ok (.imul, 1) := by decide +kernel
theorem dL_picture_110 : decode cL_picture 110 = .ok (.iconst 1, 1) := by decide +kernel
theorem dL_picture_111 : decode cL_picture 111 = .ok (.iadd, 1) := by decide +kernel
theorem dL_picture_112 : decode cL_picture 112 = .ok (.iload 7, 2) := by decide +kernel
theorem dL_picture_114 : decode cL_picture 114 = .ok (.iadd, 1) := by decide +kernel
theorem dL_picture_115 : decode cL_picture 115 = .ok (.iaload, 1) := by decide +kernel
theorem dL_picture_116 : decode cL_picture 116 = .ok (.ireturn, 1) := by decide +kernel
theorem dL_picture_117 : decode cL_picture 117 = .ok (.iload 7, 2) := by decide +kernel
theorem dL_picture_119 : decode cL_picture 119 = .ok (.iload 10, 2) := by decide +kernel
theorem dL_picture_121 : decode cL_picture 121 = .ok (.iconst 1, 1) := by decide +kernel
theorem dL_picture_122 : decode cL_picture 122 = .ok (.iadd, 1) := by decide +kernel
theorem dL_picture_123 : decode cL_picture 123 = .ok (.isub, 1) := by decide +kernel
theorem dL_picture_124 : decode cL_picture 124 = .ok (.istore 7, 2) := by decide +kernel
theorem dL_picture_126 : decode cL_picture 126 = .ok (.iinc 8 1, 3) := by decide +kernel
theorem dL_picture_129 : decode cL_picture 129 = .ok (.goto (-90), 3) := by decide +kernel
theorem dL_picture_132 : decode cL_picture 132 = .ok (.iconst 0, 1) := by decide +kernel
theorem dL_picture_133 : decode cL_picture 133 = .ok (.ireturn, 1) := by decide +kernel
theorem dL_due_0 : decode cL_due 0 = .ok (.iconst 0, 1) := by decide +kernel
theorem dL_due_1 : decode cL_due 1 = .ok (.istore_n 2, 1) := by decide +kernel
theorem dL_due_2 : decode cL_due 2 = .ok (.iconst 0, 1) := by decide +kernel
theorem dL_due_3 : decode cL_due 3 = .ok (.istore_n 3, 1) := by decide +kernel
theorem dL_due_4 : decode cL_due 4 = .ok (.iload_n 3, 1) := by decide +kernel
theorem dL_due_5 : decode cL_due 5 = .ok (.aload_n 0, 1) := by decide +kernel
theorem dL_due_6 : decode cL_due 6 = .ok (.iconst 0, 1) := by decide +kernel
theorem dL_due_7 : decode cL_due 7 = .ok (.iaload, 1) := by decide +kernel
theorem dL_due_8 : decode cL_due 8 = .ok (.if_icmp .ge 37, 3) := by decide +kernel
theorem dL_due_11 : decode cL_due 11 = .ok (.iload_n 2, 1) := by decide +kernel
theorem dL_due_12 : decode cL_due 12 = .ok (.aload_n 1, 1) := by decide +kernel
theorem dL_due_13 : decode cL_due 13 = .ok (.iload_n 3, 1) := by decide +kernel
theorem dL_due_14 : decode cL_due 14 = .ok (.iaload, 1) := by decide +kernel
theorem dL_due_15 : decode cL_due 15 = .ok (.aload_n 1, 1) := by decide +kernel
theorem dL_due_16 : decode cL_due 16 = .ok (.bipush 16, 2) := by decide +kernel
theorem dL_due_18 : decode cL_due 18 = .ok (.iload_n 3, 1) := by decide +kernel
theorem dL_due_19 : decode cL_due 19 = .ok (.iadd, 1) := by decide +kernel
theorem dL_due_20 : decode cL_due 20 = .ok (.iaload, 1) := by decide +kernel
theorem dL_due_21 : decode cL_due 21 = .ok (.ixor, 1) := by decide +kernel
theorem dL_due_22 : decode cL_due 22 = .ok (.aload_n 1, 1) := by decide +kernel
theorem dL_due_23 : decode cL_due 23 = .ok (.bipush 48, 2) := by decide +kernel
theorem dL_due_25 : decode cL_due 25 = .ok (.iload_n 3, 1) := by decide +kernel
theorem dL_due_26 : decode cL_due 26 = .ok (.iadd, 1) := by decide +kernel
theorem dL_due_27 : decode cL_due 27 = .ok (.iaload, 1) := by decide +kernel
theorem dL_due_28 : decode cL_due 28 = .ok (.iconst (-1), 1) := by decide +kernel
theorem dL_due_29 : decode cL_due 29 = .ok (.ixor, 1) := by decide +kernel
theorem dL_due_30 : decode cL_due 30 = .ok (.iand, 1) := by decide +kernel
theorem dL_due_31 : decode cL_due 31 = .ok (.bipush 127, 2) := by decide +kernel
theorem dL_due_33 : decode cL_due 33 = .ok (.iand, 1) := by decide +kernel
theorem dL_due_34 : decode cL_due 34 = .ok (.invokestatic 15, 3) := by decide +kernel
theorem dL_due_37 : decode cL_due 37 = .ok (.iadd, 1) := by decide +kernel
theorem dL_due_38 : decode cL_due 38 = .ok (.istore_n 2, 1) := by decide +kernel
theorem dL_due_39 : decode cL_due 39 = .ok (.iinc 3 1, 3) := by decide +kernel
theorem dL_due_42 : decode cL_due 42 = .ok (.goto (-38), 3) := by decide +kernel
theorem dL_due_45 : decode cL_due 45 = .ok (.iload_n 2, 1) := by decide +kernel
theorem dL_due_46 : decode cL_due 46 = .ok (.ireturn, 1) := by decide +kernel
theorem dL_goes_0 : decode cL_goes 0 = .ok (.iload 4, 2) := by decide +kernel
theorem dL_goes_2 : decode cL_goes 2 = .ok (.iconst 1, 1) := by decide +kernel
theorem dL_goes_3 : decode cL_goes 3 = .ok (.isub, 1) := by decide +kernel
theorem dL_goes_4 : decode cL_goes 4 = .ok (.istore 5, 2) := by decide +kernel
theorem dL_goes_6 : decode cL_goes 6 = .ok (.aload_n 1, 1) := by decide +kernel
theorem dL_goes_7 : decode cL_goes 7 = .ok (.iload_n 3, 1) := by decide +kernel
theorem dL_goes_8 : decode cL_goes 8 = .ok (.iaload, 1) := by decide +kernel
theorem dL_goes_9 : decode cL_goes 9 = .ok (.aload_n 1, 1) := by decide +kernel
theorem dL_goes_10 : decode cL_goes 10 = .ok (.bipush 16, 2) := by decide +kernel
theorem dL_goes_12 : decode cL_goes 12 = .ok (.iload_n 3, 1) := by decide +kernel
theorem dL_goes_13 : decode cL_goes 13 = .ok (.iadd, 1) := by decide +kernel
theorem dL_goes_14 : decode cL_goes 14 = .ok (.iaload, 1) := by decide +kernel
theorem dL_goes_15 : decode cL_goes 15 = .ok (.ixor, 1) := by decide +kernel
theorem dL_goes_16 : decode cL_goes 16 = .ok (.aload_n 1, 1) := by decide +kernel
theorem dL_goes_17 : decode cL_goes 17 = .ok (.bipush 48, 2) := by decide +kernel
theorem dL_goes_19 : decode cL_goes 19 = .ok (.iload_n 3, 1) := by decide +kernel
theorem dL_goes_20 : decode cL_goes 20 = .ok (.iadd, 1) := by decide +kernel
theorem dL_goes_21 : decode cL_goes 21 = .ok (.iaload, 1) := by decide +kernel
theorem dL_goes_22 : decode cL_goes 22 = .ok (.iconst (-1), 1) := by decide +kernel
theorem dL_goes_23 : decode cL_goes 23 = .ok (.ixor, 1) := by decide +kernel
theorem dL_goes_24 : decode cL_goes 24 = .ok (.iand, 1) := by decide +kernel
theorem dL_goes_25 : decode cL_goes 25 = .ok (.istore 6, 2) := by decide +kernel
theorem dL_goes_27 : decode cL_goes 27 = .ok (.iconst 0, 1) := by decide +kernel
theorem dL_goes_28 : decode cL_goes 28 = .ok (.istore 7, 2) := by decide +kernel
theorem dL_goes_30 : decode cL_goes 30 = .ok (.iload 7, 2) := by decide +kernel
theorem dL_goes_32 : decode cL_goes 32 = .ok (.bipush 7, 2) := by decide +kernel
theorem dL_goes_34 : decode cL_goes 34 = .ok (.if_icmp .ge 134, 3) := by decide +kernel
theorem dL_goes_37 : decode cL_goes 37 = .ok (.iload 6, 2) := by decide +kernel
theorem dL_goes_39 : decode cL_goes 39 = .ok (.iload 7, 2) := by decide +kernel
theorem dL_goes_41 : decode cL_goes 41 = .ok (.ishr, 1) := by decide +kernel
theorem dL_goes_42 : decode cL_goes 42 = .ok (.iconst 1, 1) := by decide +kernel
theorem dL_goes_43 : decode cL_goes 43 = .ok (.iand, 1) := by decide +kernel
theorem dL_goes_44 : decode cL_goes 44 = .ok (.iconst 1, 1) := by decide +kernel
theorem dL_goes_45 : decode cL_goes 45 = .ok (.if_icmp .ne 117, 3) := by decide +kernel
theorem dL_goes_48 : decode cL_goes 48 = .ok (.iload 5, 2) := by decide +kernel
theorem dL_goes_50 : decode cL_goes 50 = .ok (.ifCond .le 112, 3) := by decide +kernel
theorem dL_goes_53 : decode cL_goes 53 = .ok (.iinc 5 (-1), 3) := by decide +kernel
theorem dL_goes_56 : decode cL_goes 56 = .ok (.aload_n 1, 1) := by decide +kernel
theorem dL_goes_57 : decode cL_goes 57 = .ok (.bipush 32, 2) := by decide +kernel
theorem dL_goes_59 : decode cL_goes 59 = .ok (.iload_n 3, 1) := by decide +kernel
theorem dL_goes_60 : decode cL_goes 60 = .ok (.iadd, 1) := by decide +kernel
theorem dL_goes_61 : decode cL_goes 61 = .ok (.iaload, 1) := by decide +kernel
theorem dL_goes_62 : decode cL_goes 62 = .ok (.iload 7, 2) := by decide +kernel
theorem dL_goes_64 : decode cL_goes 64 = .ok (.ishr, 1) := by decide +kernel
theorem dL_goes_65 : decode cL_goes 65 = .ok (.iconst 1, 1) := by decide +kernel
theorem dL_goes_66 : decode cL_goes 66 = .ok (.iand, 1) := by decide +kernel
theorem dL_goes_67 : decode cL_goes 67 = .ok (.iconst 1, 1) := by decide +kernel
theorem dL_goes_68 : decode cL_goes 68 = .ok (.if_icmp .ne 26, 3) := by decide +kernel
theorem dL_goes_71 : decode cL_goes 71 = .ok (.aload_n 1, 1) := by decide +kernel
theorem dL_goes_72 : decode cL_goes 72 = .ok (.bipush 48, 2) := by decide +kernel
theorem dL_goes_74 : decode cL_goes 74 = .ok (.iload_n 3, 1) := by decide +kernel
theorem dL_goes_75 : decode cL_goes 75 = .ok (.iadd, 1) := by decide +kernel
theorem dL_goes_76 : decode cL_goes 76 = .ok (.dup2, 1) := by decide +kernel
theorem dL_goes_77 : decode cL_goes 77 = .ok (.iaload, 1) := by decide +kernel
theorem dL_goes_78 : decode cL_goes 78 = .ok (.iconst 1, 1) := by decide +kernel
theorem dL_goes_79 : decode cL_goes 79 = .ok (.iload 7, 2) := by decide +kernel
theorem dL_goes_81 : decode cL_goes 81 = .ok (.ishl, 1) := by decide +kernel
theorem dL_goes_82 : decode cL_goes 82 = .ok (.ior, 1) := by decide +kernel
theorem dL_goes_83 : decode cL_goes 83 = .ok (.iastore, 1) := by decide +kernel
theorem dL_goes_84 : decode cL_goes 84 = .ok (.aload_n 0, 1) := by decide +kernel
theorem dL_goes_85 : decode cL_goes 85 = .ok (.iconst 5, 1) := by decide +kernel
theorem dL_goes_86 : decode cL_goes 86 = .ok (.dup2, 1) := by decide +kernel
theorem dL_goes_87 : decode cL_goes 87 = .ok (.iaload, 1) := by decide +kernel
theorem dL_goes_88 : decode cL_goes 88 = .ok (.iconst 1, 1) := by decide +kernel
theorem dL_goes_89 : decode cL_goes 89 = .ok (.iadd, 1) := by decide +kernel
theorem dL_goes_90 : decode cL_goes 90 = .ok (.iastore, 1) := by decide +kernel
theorem dL_goes_91 : decode cL_goes 91 = .ok (.goto 71, 3) := by decide +kernel
theorem dL_goes_94 : decode cL_goes 94 = .ok (.aload_n 1, 1) := by decide +kernel
theorem dL_goes_95 : decode cL_goes 95 = .ok (.iload_n 3, 1) := by decide +kernel
theorem dL_goes_96 : decode cL_goes 96 = .ok (.dup2, 1) := by decide +kernel
theorem dL_goes_97 : decode cL_goes 97 = .ok (.iaload, 1) := by decide +kernel
theorem dL_goes_98 : decode cL_goes 98 = .ok (.iconst 1, 1) := by decide +kernel
theorem dL_goes_99 : decode cL_goes 99 = .ok (.iload 7, 2) := by decide +kernel
theorem dL_goes_101 : decode cL_goes 101 = .ok (.ishl, 1) := by decide +kernel
theorem dL_goes_102 : decode cL_goes 102 = .ok (.ixor, 1) := by decide +kernel
theorem dL_goes_103 : decode cL_goes 103 = .ok (.iastore, 1) := by decide +kernel
theorem dL_goes_104 : decode cL_goes 104 = .ok (.aload_n 2, 1) := by decide +kernel
theorem dL_goes_105 : decode cL_goes 105 = .ok (.iload_n 3, 1) := by decide +kernel
theorem dL_goes_106 : decode cL_goes 106 = .ok (.dup2, 1) := by decide +kernel
theorem dL_goes_107 : decode cL_goes 107 = .ok (.laload, 1) := by decide +kernel
theorem dL_goes_108 : decode cL_goes 108 = .ok (.lconst 1, 1) := by decide +kernel
theorem dL_goes_109 : decode cL_goes 109 = .ok (.bipush 8, 2) := by decide +kernel
theorem dL_goes_111 : decode cL_goes 111 = .ok (.iload 7, 2) := by decide +kernel
theorem dL_goes_113 : decode cL_goes 113 = .ok (.imul, 1) := by decide +kernel
theorem dL_goes_114 : decode cL_goes 114 = .ok (.lshl, 1) := by decide +kernel
theorem dL_goes_115 : decode cL_goes 115 = .ok (.ladd, 1) := by decide +kernel
theorem dL_goes_116 : decode cL_goes 116 = .ok (.lastore, 1) := by decide +kernel
theorem dL_goes_117 : decode cL_goes 117 = .ok (.aload_n 0, 1) := by decide +kernel
theorem dL_goes_118 : decode cL_goes 118 = .ok (.iconst 4, 1) := by decide +kernel
theorem dL_goes_119 : decode cL_goes 119 = .ok (.dup2, 1) := by decide +kernel
theorem dL_goes_120 : decode cL_goes 120 = .ok (.iaload, 1) := by decide +kernel
theorem dL_goes_121 : decode cL_goes 121 = .ok (.iconst 1, 1) := by decide +kernel
theorem dL_goes_122 : decode cL_goes 122 = .ok (.iadd, 1) := by decide +kernel
theorem dL_goes_123 : decode cL_goes 123 = .ok (.iastore, 1) := by decide +kernel
theorem dL_goes_124 : decode cL_goes 124 = .ok (.aload_n 1, 1) := by decide +kernel
theorem dL_goes_125 : decode cL_goes 125 = .ok (.bipush 32, 2) := by decide +kernel
theorem dL_goes_127 : decode cL_goes 127 = .ok (.iload_n 3, 1) := by decide +kernel
theorem dL_goes_128 : decode cL_goes 128 = .ok (.iadd, 1) := by decide +kernel
theorem dL_goes_129 : decode cL_goes 129 = .ok (.dup2, 1) := by decide +kernel
theorem dL_goes_130 : decode cL_goes 130 = .ok (.iaload, 1) := by decide +kernel
theorem dL_goes_131 : decode cL_goes 131 = .ok (.aload_n 2, 1) := by decide +kernel
theorem dL_goes_132 : decode cL_goes 132 = .ok (.iload_n 3, 1) := by decide +kernel
theorem dL_goes_133 : decode cL_goes 133 = .ok (.laload, 1) := by decide +kernel
theorem dL_goes_134 : decode cL_goes 134 = .ok (.bipush 8, 2) := by decide +kernel
theorem dL_goes_136 : decode cL_goes 136 = .ok (.iload 7, 2) := by decide +kernel
theorem dL_goes_138 : decode cL_goes 138 = .ok (.imul, 1) := by decide +kernel
theorem dL_goes_139 : decode cL_goes 139 = .ok (.lshr, 1) := by decide +kernel
theorem dL_goes_140 : decode cL_goes 140 = .ok (.ldc2_w 19, 3) := by decide +kernel
theorem dL_goes_143 : decode cL_goes 143 = .ok (.land, 1) := by decide +kernel
theorem dL_goes_144 : decode cL_goes 144 = .ok (.aload_n 0, 1) := by decide +kernel
theorem dL_goes_145 : decode cL_goes 145 = .ok (.iconst 3, 1) := by decide +kernel
theorem dL_goes_146 : decode cL_goes 146 = .ok (.iaload, 1) := by decide +kernel
theorem dL_goes_147 : decode cL_goes 147 = .ok (.i2l, 1) := by decide +kernel
theorem dL_goes_148 : decode cL_goes 148 = .ok (.lcmp, 1) := by decide +kernel
theorem dL_goes_149 : decode cL_goes 149 = .ok (.ifCond .lt 10, 3) := by decide +kernel
theorem dL_goes_152 : decode cL_goes 152 = .ok (.iconst 1, 1) := by decide +kernel
theorem dL_goes_153 : decode cL_goes 153 = .ok (.iload 7, 2) := by decide +kernel
theorem dL_goes_155 : decode cL_goes 155 = .ok (.ishl, 1) := by decide +kernel
theorem dL_goes_156 : decode cL_goes 156 = .ok (.goto 4, 3) := by decide +kernel
theorem dL_goes_159 : decode cL_goes 159 = .ok (.iconst 0, 1) := by decide +kernel
theorem dL_goes_160 : decode cL_goes 160 = .ok (.ior, 1) := by decide +kernel
theorem dL_goes_161 : decode cL_goes 161 = .ok (.iastore, 1) := by decide +kernel
theorem dL_goes_162 : decode cL_goes 162 = .ok (.iinc 7 1, 3) := by decide +kernel
theorem dL_goes_165 : decode cL_goes 165 = .ok (.goto (-135), 3) := by decide +kernel
theorem dL_goes_168 : decode cL_goes 168 = .ok (.iload 5, 2) := by decide +kernel
theorem dL_goes_170 : decode cL_goes 170 = .ok (.ireturn, 1) := by decide +kernel
theorem dL_second_0 : decode cL_second 0 = .ok (.aload_n 0, 1) := by decide +kernel
theorem dL_second_1 : decode cL_second 1 = .ok (.iconst 1, 1) := by decide +kernel
theorem dL_second_2 : decode cL_second 2 = .ok (.iaload, 1) := by decide +kernel
theorem dL_second_3 : decode cL_second 3 = .ok (.istore_n 3, 1) := by decide +kernel
theorem dL_second_4 : decode cL_second 4 = .ok (.bipush 16, 2) := by decide +kernel
theorem dL_second_6 : decode cL_second 6 = .ok (.newarray .int, 2) := by decide +kernel
theorem dL_second_8 : decode cL_second 8 = .ok (.astore 4, 2) := by decide +kernel
theorem dL_second_10 : decode cL_second 10 = .ok (.iconst 0, 1) := by decide +kernel
theorem dL_second_11 : decode cL_second 11 = .ok (.istore 5, 2) := by decide +kernel
theorem dL_second_13 : decode cL_second 13 = .ok (.iload 5, 2) := by decide +kernel
theorem dL_second_15 : decode cL_second 15 = .ok (.aload_n 0, 1) := by decide +kernel
theorem dL_second_16 : decode cL_second 16 = .ok (.iconst 0, 1) := by decide +kernel
theorem dL_second_17 : decode cL_second 17 = .ok (.iaload, 1) := by decide +kernel
theorem dL_second_18 : decode cL_second 18 = .ok (.if_icmp .ge 39, 3) := by decide +kernel
theorem dL_second_21 : decode cL_second 21 = .ok (.aload 4, 2) := by decide +kernel
theorem dL_second_23 : decode cL_second 23 = .ok (.iload 5, 2) := by decide +kernel
theorem dL_second_25 : decode cL_second 25 = .ok (.aload_n 1, 1) := by decide +kernel
theorem dL_second_26 : decode cL_second 26 = .ok (.iload 5, 2) := by decide +kernel
theorem dL_second_28 : decode cL_second 28 = .ok (.iaload, 1) := by decide +kernel
theorem dL_second_29 : decode cL_second 29 = .ok (.aload_n 1, 1) := by decide +kernel
theorem dL_second_30 : decode cL_second 30 = .ok (.bipush 16, 2) := by decide +kernel
theorem dL_second_32 : decode cL_second 32 = .ok (.iload 5, 2) := by decide +kernel
theorem dL_second_34 : decode cL_second 34 = .ok (.iadd, 1) := by decide +kernel
theorem dL_second_35 : decode cL_second 35 = .ok (.iaload, 1) := by decide +kernel
theorem dL_second_36 : decode cL_second 36 = .ok (.ixor, 1) := by decide +kernel
theorem dL_second_37 : decode cL_second 37 = .ok (.aload_n 1, 1) := by decide +kernel
theorem dL_second_38 : decode cL_second 38 = .ok (.bipush 48, 2) := by decide +kernel
theorem dL_second_40 : decode cL_second 40 = .ok (.iload 5, 2) := by decide +kernel
theorem dL_second_42 : decode cL_second 42 = .ok (.iadd, 1) := by decide +kernel
theorem dL_second_43 : decode cL_second 43 = .ok (.iaload, 1) := by decide +kernel
theorem dL_second_44 : decode cL_second 44 = .ok (.iconst (-1), 1) := by decide +kernel
theorem dL_second_45 : decode cL_second 45 = .ok (.ixor, 1) := by decide +kernel
theorem dL_second_46 : decode cL_second 46 = .ok (.iand, 1) := by decide +kernel
theorem dL_second_47 : decode cL_second 47 = .ok (.invokestatic 15, 3) := by decide +kernel
theorem dL_second_50 : decode cL_second 50 = .ok (.iastore, 1) := by decide +kernel
theorem dL_second_51 : decode cL_second 51 = .ok (.iinc 5 1, 3) := by decide +kernel
theorem dL_second_54 : decode cL_second 54 = .ok (.goto (-41), 3) := by decide +kernel
theorem dL_second_57 : decode cL_second 57 = .ok (.bipush 7, 2) := by decide +kernel
theorem dL_second_59 : decode cL_second 59 = .ok (.istore 5, 2) := by decide +kernel
theorem dL_second_61 : decode cL_second 61 = .ok (.iload 5, 2) := by decide +kernel
theorem dL_second_63 : decode cL_second 63 = .ok (.ifCond .le 98, 3) := by decide +kernel
theorem dL_second_66 : decode cL_second 66 = .ok (.iconst 0, 1) := by decide +kernel
theorem dL_second_67 : decode cL_second 67 = .ok (.istore 6, 2) := by decide +kernel
theorem dL_second_69 : decode cL_second 69 = .ok (.iload 6, 2) := by decide +kernel
theorem dL_second_71 : decode cL_second 71 = .ok (.aload_n 0, 1) := by decide +kernel
theorem dL_second_72 : decode cL_second 72 = .ok (.iconst 0, 1) := by decide +kernel
theorem dL_second_73 : decode cL_second 73 = .ok (.iaload, 1) := by decide +kernel
theorem dL_second_74 : decode cL_second 74 = .ok (.if_icmp .ge 81, 3) := by decide +kernel
theorem dL_second_77 : decode cL_second 77 = .ok (.aload_n 0, 1) := by decide +kernel
theorem dL_second_78 : decode cL_second 78 = .ok (.iconst 2, 1) := by decide +kernel
theorem dL_second_79 : decode cL_second 79 = .ok (.iaload, 1) := by decide +kernel
theorem dL_second_80 : decode cL_second 80 = .ok (.iconst 1, 1) := by decide +kernel
theorem dL_second_81 : decode cL_second 81 = .ok (.if_icmp .ne 14, 3) := by decide +kernel
theorem dL_second_84 : decode cL_second 84 = .ok (.aload_n 0, 1) := by decide +kernel
theorem dL_second_85 : decode cL_second 85 = .ok (.iconst 0, 1) := by decide +kernel
theorem dL_second_86 : decode cL_second 86 = .ok (.iaload, 1) := by decide +kernel
theorem dL_second_87 : decode cL_second 87 = .ok (.iconst 1, 1) := by decide +kernel
theorem dL_second_88 : decode cL_second 88 = .ok (.isub, 1) := by decide +kernel
theorem dL_second_89 : decode cL_second 89 = .ok (.iload 6, 2) := by decide +kernel
theorem dL_second_91 : decode cL_second 91 = .ok (.isub, 1) := by decide +kernel
theorem dL_second_92 : decode cL_second 92 = .ok (.goto 5, 3) := by decide +kernel
theorem dL_second_95 : decode cL_second 95 = .ok (.iload 6, 2) := by decide +kernel
theorem dL_second_97 : decode cL_second 97 = .ok (.istore 7, 2) := by decide +kernel
theorem dL_second_99 : decode cL_second 99 = .ok (.aload_n 0, 1) := by decide +kernel
theorem dL_second_100 : decode cL_second 100 = .ok (.iconst 2, 1) := by decide +kernel
theorem dL_second_101 : decode cL_second 101 = .ok (.iaload, 1) := by decide +kernel
theorem dL_second_102 : decode cL_second 102 = .ok (.iconst 2, 1) := by decide +kernel
theorem dL_second_103 : decode cL_second 103 = .ok (.if_icmp .ne 16, 3) := by decide +kernel
theorem dL_second_106 : decode cL_second 106 = .ok (.aload 4, 2) := by decide +kernel
theorem dL_second_108 : decode cL_second 108 = .ok (.iload 7, 2) := by decide +kernel
theorem dL_second_110 : decode cL_second 110 = .ok (.iaload, 1) := by decide +kernel
theorem dL_second_111 : decode cL_second 111 = .ok (.iload 5, 2) := by decide +kernel
theorem dL_second_113 : decode cL_second 113 = .ok (.if_icmp .ne 36, 3) := by decide +kernel
theorem dL_second_116 : decode cL_second 116 = .ok (.goto 18, 3) := by decide +kernel
theorem dL_second_119 : decode cL_second 119 = .ok (.iload 5, 2) := by decide +kernel
theorem dL_second_121 : decode cL_second 121 = .ok (.bipush 7, 2) := by decide +kernel
theorem dL_second_123 : decode cL_second 123 = .ok (.if_icmp .ne 26, 3) := by decide +kernel
theorem dL_second_126 : decode cL_second 126 = .ok (.aload 4, 2) := by decide +kernel
theorem dL_second_128 : decode cL_second 128 = .ok (.iload 7, 2) := by decide +kernel
theorem dL_second_130 : decode cL_second 130 = .ok (.iaload, 1) := by decide +kernel
theorem dL_second_131 : decode cL_second 131 = .ok (.ifCond .le 18, 3) := by decide +kernel
theorem dL_second_134 : decode cL_second 134 = .ok (.iload_n 3, 1) := by decide +kernel
theorem dL_second_135 : decode cL_second 135 = .ok (.iconst 1, 1) := by decide +kernel
theorem dL_second_136 : decode cL_second 136 = .ok (.if_icmp .le 13, 3) := by decide +kernel
theorem dL_second_139 : decode cL_second 139 = .ok (.aload_n 0, 1) := by decide +kernel
theorem dL_second_140 : decode cL_second 140 = .ok (.aload_n 1, 1) := by decide +kernel
theorem dL_second_141 : decode cL_second 141 = .ok (.aload_n 2, 1) := by decide +kernel
theorem dL_second_142 : decode cL_second 142 = .ok (.iload 7, 2) := by decide +kernel
theorem dL_second_144 : decode cL_second 144 = .ok (.iload_n 3, 1) := by decide +kernel
theorem dL_second_145 : decode cL_second 145 = .ok (.invokestatic 21, 3) := by decide +kernel
theorem dL_second_148 : decode cL_second 148 = .ok (.istore_n 3, 1) := by decide +kernel
theorem dL_second_149 : decode cL_second 149 = .ok (.iinc 6 1, 3) := by decide +kernel
theorem dL_second_152 : decode cL_second 152 = .ok (.goto (-83), 3) := by decide +kernel
theorem dL_second_155 : decode cL_second 155 = .ok (.iinc 5 (-1), 3) := by decide +kernel
theorem dL_second_158 : decode cL_second 158 = .ok (.goto (-97), 3) := by decide +kernel
theorem dL_second_161 : decode cL_second 161 = .ok (.bipush 27, 2) := by decide +kernel
theorem dL_second_163 : decode cL_second 163 = .ok (.istore 5, 2) := by decide +kernel
theorem dL_second_165 : decode cL_second 165 = .ok (.iload 5, 2) := by decide +kernel
theorem dL_second_167 : decode cL_second 167 = .ok (.bipush 8, 2) := by decide +kernel
theorem dL_second_169 : decode cL_second 169 = .ok (.if_icmp .le 19, 3) := by decide +kernel
theorem dL_second_172 : decode cL_second 172 = .ok (.aload_n 0, 1) := by decide +kernel
theorem dL_second_173 : decode cL_second 173 = .ok (.iload 5, 2) := by decide +kernel
theorem dL_second_175 : decode cL_second 175 = .ok (.aload_n 0, 1) := by decide +kernel
theorem dL_second_176 : decode cL_second 176 = .ok (.iload 5, 2) := by decide +kernel
theorem dL_second_178 : decode cL_second 178 = .ok (.iconst 1, 1) := by decide +kernel
theorem dL_second_179 : decode cL_second 179 = .ok (.isub, 1) := by decide +kernel
theorem dL_second_180 : decode cL_second 180 = .ok (.iaload, 1) := by decide +kernel
theorem dL_second_181 : decode cL_second 181 = .ok (.iastore, 1) := by decide +kernel
theorem dL_second_182 : decode cL_second 182 = .ok (.iinc 5 (-1), 3) := by decide +kernel
theorem dL_second_185 : decode cL_second 185 = .ok (.goto (-20), 3) := by decide +kernel
theorem dL_second_188 : decode cL_second 188 = .ok (.aload_n 0, 1) := by decide +kernel
theorem dL_second_189 : decode cL_second 189 = .ok (.bipush 8, 2) := by decide +kernel
theorem dL_second_191 : decode cL_second 191 = .ok (.aload_n 0, 1) := by decide +kernel
theorem dL_second_192 : decode cL_second 192 = .ok (.iconst 1, 1) := by decide +kernel
theorem dL_second_193 : decode cL_second 193 = .ok (.iaload, 1) := by decide +kernel
theorem dL_second_194 : decode cL_second 194 = .ok (.iload_n 3, 1) := by decide +kernel
theorem dL_second_195 : decode cL_second 195 = .ok (.isub, 1) := by decide +kernel
theorem dL_second_196 : decode cL_second 196 = .ok (.iastore, 1) := by decide +kernel
theorem dL_second_197 : decode cL_second 197 = .ok (.aload_n 0, 1) := by decide +kernel
theorem dL_second_198 : decode cL_second 198 = .ok (.bipush 6, 2) := by decide +kernel
theorem dL_second_200 : decode cL_second 200 = .ok (.dup2, 1) := by decide +kernel
theorem dL_second_201 : decode cL_second 201 = .ok (.iaload, 1) := by decide +kernel
theorem dL_second_202 : decode cL_second 202 = .ok (.aload_n 0, 1) := by decide +kernel
theorem dL_second_203 : decode cL_second 203 = .ok (.bipush 8, 2) := by decide +kernel
theorem dL_second_205 : decode cL_second 205 = .ok (.iaload, 1) := by decide +kernel
theorem dL_second_206 : decode cL_second 206 = .ok (.iadd, 1) := by decide +kernel
theorem dL_second_207 : decode cL_second 207 = .ok (.iastore, 1) := by decide +kernel
theorem dL_second_208 : decode cL_second 208 = .ok (.aload_n 0, 1) := by decide +kernel
theorem dL_second_209 : decode cL_second 209 = .ok (.bipush 7, 2) := by decide +kernel
theorem dL_second_211 : decode cL_second 211 = .ok (.dup2, 1) := by decide +kernel
theorem dL_second_212 : decode cL_second 212 = .ok (.iaload, 1) := by decide +kernel
theorem dL_second_213 : decode cL_second 213 = .ok (.iconst 1, 1) := by decide +kernel
theorem dL_second_214 : decode cL_second 214 = .ok (.iadd, 1) := by decide +kernel
theorem dL_second_215 : decode cL_second 215 = .ok (.iastore, 1) := by decide +kernel
theorem dL_second_216 : decode cL_second 216 = .ok (.return_, 1) := by decide +kernel
theorem dL_wrong_0 : decode cL_wrong 0 = .ok (.iconst 0, 1) := by decide +kernel
theorem dL_wrong_1 : decode cL_wrong 1 = .ok (.istore 7, 2) := by decide +kernel
theorem dL_wrong_3 : decode cL_wrong 3 = .ok (.iconst 0, 1) := by decide +kernel
theorem dL_wrong_4 : decode cL_wrong 4 = .ok (.istore 8, 2) := by decide +kernel
theorem dL_wrong_6 : decode cL_wrong 6 = .ok (.iload 8, 2) := by decide +kernel
theorem dL_wrong_8 : decode cL_wrong 8 = .ok (.aload_n 0, 1) := by decide +kernel
theorem dL_wrong_9 : decode cL_wrong 9 = .ok (.iconst 0, 1) := by decide +kernel
theorem dL_wrong_10 : decode cL_wrong 10 = .ok (.iaload, 1) := by decide +kernel
theorem dL_wrong_11 : decode cL_wrong 11 = .ok (.if_icmp .ge 66, 3) := by decide +kernel
theorem dL_wrong_14 : decode cL_wrong 14 = .ok (.aload_n 1, 1) := by decide +kernel
theorem dL_wrong_15 : decode cL_wrong 15 = .ok (.iload 8, 2) := by decide +kernel
theorem dL_wrong_17 : decode cL_wrong 17 = .ok (.iaload, 1) := by decide +kernel
theorem dL_wrong_18 : decode cL_wrong 18 = .ok (.aload_n 0, 1) := by decide +kernel
theorem dL_wrong_19 : decode cL_wrong 19 = .ok (.aload_n 2, 1) := by decide +kernel
theorem dL_wrong_20 : decode cL_wrong 20 = .ok (.aload_n 3, 1) := by decide +kernel
theorem dL_wrong_21 : decode cL_wrong 21 = .ok (.iload 4, 2) := by decide +kernel
theorem dL_wrong_23 : decode cL_wrong 23 = .ok (.iload 5, 2) := by decide +kernel
theorem dL_wrong_25 : decode cL_wrong 25 = .ok (.iload 8, 2) := by decide +kernel
theorem dL_wrong_27 : decode cL_wrong 27 = .ok (.invokestatic 25, 3) := by decide +kernel
theorem dL_wrong_30 : decode cL_wrong 30 = .ok (.ixor, 1) := by decide +kernel
theorem dL_wrong_31 : decode cL_wrong 31 = .ok (.istore 9, 2) := by decide +kernel
theorem dL_wrong_33 : decode cL_wrong 33 = .ok (.iload 7, 2) := by decide +kernel
theorem dL_wrong_35 : decode cL_wrong 35 = .ok (.iload 6, 2) := by decide +kernel
theorem dL_wrong_37 : decode cL_wrong 37 = .ok (.ifCond .eq 16, 3) := by decide +kernel
theorem dL_wrong_40 : decode cL_wrong 40 = .ok (.iload 9, 2) := by decide +kernel
theorem dL_wrong_42 : decode cL_wrong 42 = .ok (.aload_n 1, 1) := by decide +kernel
theorem dL_wrong_43 : decode cL_wrong 43 = .ok (.bipush 48, 2) := by decide +kernel
theorem dL_wrong_45 : decode cL_wrong 45 = .ok (.iload 8, 2) := by decide +kernel
theorem dL_wrong_47 : decode cL_wrong 47 = .ok (.iadd, 1) := by decide +kernel
theorem dL_wrong_48 : decode cL_wrong 48 = .ok (.iaload, 1) := by decide +kernel
theorem dL_wrong_49 : decode cL_wrong 49 = .ok (.iand, 1) := by decide +kernel
theorem dL_wrong_50 : decode cL_wrong 50 = .ok (.goto 15, 3) := by decide +kernel
theorem dL_wrong_53 : decode cL_wrong 53 = .ok (.iload 9, 2) := by decide +kernel
theorem dL_wrong_55 : decode cL_wrong 55 = .ok (.aload_n 1, 1) := by decide +kernel
theorem dL_wrong_56 : decode cL_wrong 56 = .ok (.bipush 48, 2) := by decide +kernel
theorem dL_wrong_58 : decode cL_wrong 58 = .ok (.iload 8, 2) := by decide +kernel
theorem dL_wrong_60 : decode cL_wrong 60 = .ok (.iadd, 1) := by decide +kernel
theorem dL_wrong_61 : decode cL_wrong 61 = .ok (.iaload, 1) := by decide +kernel
theorem dL_wrong_62 : decode cL_wrong 62 = .ok (.iconst (-1), 1) := by decide +kernel
theorem dL_wrong_63 : decode cL_wrong 63 = .ok (.ixor, 1) := by decide +kernel
theorem dL_wrong_64 : decode cL_wrong 64 = .ok (.iand, 1) := by decide +kernel
theorem dL_wrong_65 : decode cL_wrong 65 = .ok (.invokestatic 15, 3) := by decide +kernel
theorem dL_wrong_68 : decode cL_wrong 68 = .ok (.iadd, 1) := by decide +kernel
theorem dL_wrong_69 : decode cL_wrong 69 = .ok (.istore 7, 2) := by decide +kernel
theorem dL_wrong_71 : decode cL_wrong 71 = .ok (.iinc 8 1, 3) := by decide +kernel
theorem dL_wrong_74 : decode cL_wrong 74 = .ok (.goto (-68), 3) := by decide +kernel
theorem dL_wrong_77 : decode cL_wrong 77 = .ok (.iload 7, 2) := by decide +kernel
theorem dL_wrong_79 : decode cL_wrong 79 = .ok (.ireturn, 1) := by decide +kernel
theorem dL_best_0 : decode cL_best 0 = .ok (.iconst 2, 1) := by decide +kernel
theorem dL_best_1 : decode cL_best 1 = .ok (.istore 5, 2) := by decide +kernel
theorem dL_best_3 : decode cL_best 3 = .ok (.iconst 4, 1) := by decide +kernel
theorem dL_best_4 : decode cL_best 4 = .ok (.istore 6, 2) := by decide +kernel
theorem dL_best_6 : decode cL_best 6 = .ok (.iload 6, 2) := by decide +kernel
theorem dL_best_8 : decode cL_best 8 = .ok (.ifCond .lt 120, 3) := by decide +kernel
theorem dL_best_11 : decode cL_best 11 = .ok (.iload 6, 2) := by decide +kernel
theorem dL_best_13 : decode cL_best 13 = .ok (.ifCond .ne 7, 3) := by decide +kernel
theorem dL_best_16 : decode cL_best 16 = .ok (.iconst 0, 1) := by decide +kernel
theorem dL_best_17 : decode cL_best 17 = .ok (.goto 25, 3) := by decide +kernel
theorem dL_best_20 : decode cL_best 20 = .ok (.iload 6, 2) := by decide +kernel
theorem dL_best_22 : decode cL_best 22 = .ok (.iconst 2, 1) := by decide +kernel
theorem dL_best_23 : decode cL_best 23 = .ok (.irem, 1) := by decide +kernel
theorem dL_best_24 : decode cL_best 24 = .ok (.iconst 1, 1) := by decide +kernel
theorem dL_best_25 : decode cL_best 25 = .ok (.if_icmp .ne 13, 3) := by decide +kernel
theorem dL_best_28 : decode cL_best 28 = .ok (.iload 6, 2) := by decide +kernel
theorem dL_best_30 : decode cL_best 30 = .ok (.iconst 1, 1) := by decide +kernel
theorem dL_best_31 : decode cL_best 31 = .ok (.iadd, 1) := by decide +kernel
theorem dL_best_32 : decode cL_best 32 = .ok (.ineg, 1) := by decide +kernel
theorem dL_best_33 : decode cL_best 33 = .ok (.iconst 2, 1) := by decide +kernel
theorem dL_best_34 : decode cL_best 34 = .ok (.idiv, 1) := by decide +kernel
theorem dL_best_35 : decode cL_best 35 = .ok (.goto 7, 3) := by decide +kernel
theorem dL_best_38 : decode cL_best 38 = .ok (.iload 6, 2) := by decide +kernel
theorem dL_best_40 : decode cL_best 40 = .ok (.iconst 2, 1) := by decide +kernel
theorem dL_best_41 : decode cL_best 41 = .ok (.idiv, 1) := by decide +kernel
theorem dL_best_42 : decode cL_best 42 = .ok (.istore 7, 2) := by decide +kernel
theorem dL_best_44 : decode cL_best 44 = .ok (.aload_n 0, 1) := by decide +kernel
theorem dL_best_45 : decode cL_best 45 = .ok (.aload_n 1, 1) := by decide +kernel
theorem dL_best_46 : decode cL_best 46 = .ok (.aload_n 2, 1) := by decide +kernel
theorem dL_best_47 : decode cL_best 47 = .ok (.aload_n 3, 1) := by decide +kernel
theorem dL_best_48 : decode cL_best 48 = .ok (.iload 4, 2) := by decide +kernel
theorem dL_best_50 : decode cL_best 50 = .ok (.iload 7, 2) := by decide +kernel
theorem dL_best_52 : decode cL_best 52 = .ok (.iconst 1, 1) := by decide +kernel
theorem dL_best_53 : decode cL_best 53 = .ok (.invokestatic 29, 3) := by decide +kernel
theorem dL_best_56 : decode cL_best 56 = .ok (.aload_n 0, 1) := by decide +kernel
theorem dL_best_57 : decode cL_best 57 = .ok (.aload_n 1, 1) := by decide +kernel
theorem dL_best_58 : decode cL_best 58 = .ok (.aload_n 2, 1) := by decide +kernel
theorem dL_best_59 : decode cL_best 59 = .ok (.aload_n 3, 1) := by decide +kernel
theorem dL_best_60 : decode cL_best 60 = .ok (.iload 4, 2) := by decide +kernel
theorem dL_best_62 : decode cL_best 62 = .ok (.iload 5, 2) := by decide +kernel
theorem dL_best_64 : decode cL_best 64 = .ok (.iconst 1, 1) := by decide +kernel
theorem dL_best_65 : decode cL_best 65 = .ok (.invokestatic 29, 3) := by decide +kernel
theorem dL_best_68 : decode cL_best 68 = .ok (.isub, 1) := by decide +kernel
theorem dL_best_69 : decode cL_best 69 = .ok (.istore 8, 2) := by decide +kernel
theorem dL_best_71 : decode cL_best 71 = .ok (.aload_n 0, 1) := by decide +kernel
theorem dL_best_72 : decode cL_best 72 = .ok (.aload_n 1, 1) := by decide +kernel
theorem dL_best_73 : decode cL_best 73 = .ok (.aload_n 2, 1) := by decide +kernel
theorem dL_best_74 : decode cL_best 74 = .ok (.aload_n 3, 1) := by decide +kernel
theorem dL_best_75 : decode cL_best 75 = .ok (.iload 4, 2) := by decide +kernel
theorem dL_best_77 : decode cL_best 77 = .ok (.iload 7, 2) := by decide +kernel
theorem dL_best_79 : decode cL_best 79 = .ok (.iconst 0, 1) := by decide +kernel
theorem dL_best_80 : decode cL_best 80 = .ok (.invokestatic 29, 3) := by decide +kernel
theorem dL_best_83 : decode cL_best 83 = .ok (.aload_n 0, 1) := by decide +kernel
theorem dL_best_84 : decode cL_best 84 = .ok (.aload_n 1, 1) := by decide +kernel
theorem dL_best_85 : decode cL_best 85 = .ok (.aload_n 2, 1) := by decide +kernel
theorem dL_best_86 : decode cL_best 86 = .ok (.aload_n 3, 1) := by decide +kernel
theorem dL_best_87 : decode cL_best 87 = .ok (.iload 4, 2) := by decide +kernel
theorem dL_best_89 : decode cL_best 89 = .ok (.iload 5, 2) := by decide +kernel
theorem dL_best_91 : decode cL_best 91 = .ok (.iconst 0, 1) := by decide +kernel
theorem dL_best_92 : decode cL_best 92 = .ok (.invokestatic 29, 3) := by decide +kernel
theorem dL_best_95 : decode cL_best 95 = .ok (.isub, 1) := by decide +kernel
theorem dL_best_96 : decode cL_best 96 = .ok (.istore 9, 2) := by decide +kernel
theorem dL_best_98 : decode cL_best 98 = .ok (.iload 8, 2) := by decide +kernel
theorem dL_best_100 : decode cL_best 100 = .ok (.ifCond .lt 13, 3) := by decide +kernel
theorem dL_best_103 : decode cL_best 103 = .ok (.iload 8, 2) := by decide +kernel
theorem dL_best_105 : decode cL_best 105 = .ok (.ifCond .ne 13, 3) := by decide +kernel
theorem dL_best_108 : decode cL_best 108 = .ok (.iload 9, 2) := by decide +kernel
theorem dL_best_110 : decode cL_best 110 = .ok (.ifCond .gt 8, 3) := by decide +kernel
theorem dL_best_113 : decode cL_best 113 = .ok (.iload 7, 2) := by decide +kernel
theorem dL_best_115 : decode cL_best 115 = .ok (.goto 5, 3) := by decide +kernel
theorem dL_best_118 : decode cL_best 118 = .ok (.iload 5, 2) := by decide +kernel
theorem dL_best_120 : decode cL_best 120 = .ok (.istore 5, 2) := by decide +kernel
theorem dL_best_122 : decode cL_best 122 = .ok (.iinc 6 (-1), 3) := by decide +kernel
theorem dL_best_125 : decode cL_best 125 = .ok (.goto (-119), 3) := by decide +kernel
theorem dL_best_128 : decode cL_best 128 = .ok (.iload 5, 2) := by decide +kernel
theorem dL_best_130 : decode cL_best 130 = .ok (.ireturn, 1) := by decide +kernel
theorem dL_acts_0 : decode cL_acts 0 = .ok (.iload 6, 2) := by decide +kernel
theorem dL_acts_2 : decode cL_acts 2 = .ok (.iconst 5, 1) := by decide +kernel
theorem dL_acts_3 : decode cL_acts 3 = .ok (.ishr, 1) := by decide +kernel
theorem dL_acts_4 : decode cL_acts 4 = .ok (.ldc 33, 2) := by decide +kernel
theorem dL_acts_6 : decode cL_acts 6 = .ok (.invokestatic 34, 3) := by decide +kernel
theorem dL_acts_9 : decode cL_acts 9 = .ok (.istore 7, 2) := by decide +kernel
theorem dL_acts_11 : decode cL_acts 11 = .ok (.aload 5, 2) := by decide +kernel
theorem dL_acts_13 : decode cL_acts 13 = .ok (.bipush 60, 2) := by decide +kernel
theorem dL_acts_15 : decode cL_acts 15 = .ok (.iaload, 1) := by decide +kernel
theorem dL_acts_16 : decode cL_acts 16 = .ok (.istore 8, 2) := by decide +kernel
theorem dL_acts_18 : decode cL_acts 18 = .ok (.iload 8, 2) := by decide +kernel
theorem dL_acts_20 : decode cL_acts 20 = .ok (.ifCond .ne 7, 3) := by decide +kernel
theorem dL_acts_23 : decode cL_acts 23 = .ok (.iconst 0, 1) := by decide +kernel
theorem dL_acts_24 : decode cL_acts 24 = .ok (.goto 8, 3) := by decide +kernel
theorem dL_acts_27 : decode cL_acts 27 = .ok (.iload 7, 2) := by decide +kernel
theorem dL_acts_29 : decode cL_acts 29 = .ok (.iload 8, 2) := by decide +kernel
theorem dL_acts_31 : decode cL_acts 31 = .ok (.irem, 1) := by decide +kernel
theorem dL_acts_32 : decode cL_acts 32 = .ok (.istore 9, 2) := by decide +kernel
theorem dL_acts_34 : decode cL_acts 34 = .ok (.iload 7, 2) := by decide +kernel
theorem dL_acts_36 : decode cL_acts 36 = .ok (.aload_n 1, 1) := by decide +kernel
theorem dL_acts_37 : decode cL_acts 37 = .ok (.iconst 0, 1) := by decide +kernel
theorem dL_acts_38 : decode cL_acts 38 = .ok (.iaload, 1) := by decide +kernel
theorem dL_acts_39 : decode cL_acts 39 = .ok (.irem, 1) := by decide +kernel
theorem dL_acts_40 : decode cL_acts 40 = .ok (.istore 10, 2) := by decide +kernel
theorem dL_acts_42 : decode cL_acts 42 = .ok (.iload 7, 2) := by decide +kernel
theorem dL_acts_44 : decode cL_acts 44 = .ok (.bipush 16, 2) := by decide +kernel
theorem dL_acts_46 : decode cL_acts 46 = .ok (.idiv, 1) := by decide +kernel
theorem dL_acts_47 : decode cL_acts 47 = .ok (.bipush 7, 2) := by decide +kernel
theorem dL_acts_49 : decode cL_acts 49 = .ok (.irem, 1) := by decide +kernel
theorem dL_acts_50 : decode cL_acts 50 = .ok (.istore 11, 2) := by decide +kernel
theorem dL_acts_52 : decode cL_acts 52 = .ok (.iload 6, 2) := by decide +kernel
theorem dL_acts_54 : decode cL_acts 54 = .ok (.bipush 20, 2) := by decide +kernel
theorem dL_acts_56 : decode cL_acts 56 = .ok (.invokestatic 34, 3) := by decide +kernel
theorem dL_acts_59 : decode cL_acts 59 = .ok (.tableswitch 1015 0 15 #[77, 186, 186, 294, 294, 294, 425, 425, 579, 673, 673, 673, 673, 788, 850, 930], 77) := by decide +kernel
theorem dL_acts_136 : decode cL_acts 136 = .ok (.iload 7, 2) := by decide +kernel
theorem dL_acts_138 : decode cL_acts 138 = .ok (.iconst 4, 1) := by decide +kernel
theorem dL_acts_139 : decode cL_acts 139 = .ok (.irem, 1) := by decide +kernel
theorem dL_acts_140 : decode cL_acts 140 = .ok (.ifCond .le 20, 3) := by decide +kernel
theorem dL_acts_143 : decode cL_acts 143 = .ok (.aload_n 0, 1) := by decide +kernel
theorem dL_acts_144 : decode cL_acts 144 = .ok (.iconst 5, 1) := by decide +kernel
theorem dL_acts_145 : decode cL_acts 145 = .ok (.invokevirtual 38, 3) := by decide +kernel
theorem dL_acts_148 : decode cL_acts 148 = .ok (.sipush (-1001), 3) := by decide +kernel
theorem dL_acts_151 : decode cL_acts 151 = .ok (.if_icmp .ne 7, 3) := by decide +kernel
theorem dL_acts_154 : decode cL_acts 154 = .ok (.iconst 1, 1) := by decide +kernel
theorem dL_acts_155 : decode cL_acts 155 = .ok (.goto 4, 3) := by decide +kernel
theorem dL_acts_158 : decode cL_acts 158 = .ok (.iconst 0, 1) := by decide +kernel
theorem dL_acts_159 : decode cL_acts 159 = .ok (.ireturn, 1) := by decide +kernel
theorem dL_acts_160 : decode cL_acts 160 = .ok (.aload_n 1, 1) := by decide +kernel
theorem dL_acts_161 : decode cL_acts 161 = .ok (.iconst 0, 1) := by decide +kernel
theorem dL_acts_162 : decode cL_acts 162 = .ok (.iaload, 1) := by decide +kernel
theorem dL_acts_163 : decode cL_acts 163 = .ok (.istore 12, 2) := by decide +kernel
theorem dL_acts_165 : decode cL_acts 165 = .ok (.aload_n 1, 1) := by decide +kernel
theorem dL_acts_166 : decode cL_acts 166 = .ok (.iconst 0, 1) := by decide +kernel
theorem dL_acts_167 : decode cL_acts 167 = .ok (.bipush 6, 2) := by decide +kernel
theorem dL_acts_169 : decode cL_acts 169 = .ok (.iload 7, 2) := by decide +kernel
theorem dL_acts_171 : decode cL_acts 171 = .ok (.iconst 4, 1) := by decide +kernel
theorem dL_acts_172 : decode cL_acts 172 = .ok (.idiv, 1) := by decide +kernel
theorem dL_acts_173 : decode cL_acts 173 = .ok (.bipush 9, 2) := by decide +kernel
theorem dL_acts_175 : decode cL_acts 175 = .ok (.irem, 1) := by decide +kernel
theorem dL_acts_176 : decode cL_acts 176 = .ok (.iadd, 1) := by decide +kernel
theorem dL_acts_177 : decode cL_acts 177 = .ok (.iastore, 1) := by decide +kernel
theorem dL_acts_178 : decode cL_acts 178 = .ok (.iconst 4, 1) := by decide +kernel
theorem dL_acts_179 : decode cL_acts 179 = .ok (.istore 13, 2) := by decide +kernel
theorem dL_acts_181 : decode cL_acts 181 = .ok (.iload 13, 2) := by decide +kernel
theorem dL_acts_183 : decode cL_acts 183 = .ok (.bipush 28, 2) := by decide +kernel
theorem dL_acts_185 : decode cL_acts 185 = .ok (.if_icmp .ge 14, 3) := by decide +kernel
theorem dL_acts_188 : decode cL_acts 188 = .ok (.aload_n 1, 1) := by decide +kernel
theorem dL_acts_189 : decode cL_acts 189 = .ok (.iload 13, 2) := by decide +kernel
theorem dL_acts_191 : decode cL_acts 191 = .ok (.iconst 0, 1) := by decide +kernel
theorem dL_acts_192 : decode cL_acts 192 = .ok (.iastore, 1) := by decide +kernel
theorem dL_acts_193 : decode cL_acts 193 = .ok (.iinc 13 1, 3) := by decide +kernel
theorem dL_acts_196 : decode cL_acts 196 = .ok (.goto (-15), 3) := by decide +kernel
theorem dL_acts_199 : decode cL_acts 199 = .ok (.iconst 0, 1) := by decide +kernel
theorem dL_acts_200 : decode cL_acts 200 = .ok (.istore 13, 2) := by decide +kernel
theorem dL_acts_202 : decode cL_acts 202 = .ok (.iload 13, 2) := by decide +kernel
theorem dL_acts_204 : decode cL_acts 204 = .ok (.bipush 64, 2) := by decide +kernel
theorem dL_acts_206 : decode cL_acts 206 = .ok (.if_icmp .ge 21, 3) := by decide +kernel
theorem dL_acts_209 : decode cL_acts 209 = .ok (.aload_n 2, 1) := by decide +kernel
theorem dL_acts_210 : decode cL_acts 210 = .ok (.iload 13, 2) := by decide +kernel
theorem dL_acts_212 : decode cL_acts 212 = .ok (.iconst 0, 1) := by decide +kernel
theorem dL_acts_213 : decode cL_acts 213 = .ok (.iastore, 1) := by decide +kernel
theorem dL_acts_214 : decode cL_acts 214 = .ok (.aload_n 3, 1) := by decide +kernel
theorem dL_acts_215 : decode cL_acts 215 = .ok (.iload 13, 2) := by decide +kernel
theorem dL_acts_217 : decode cL_acts 217 = .ok (.iconst 4, 1) := by decide +kernel
theorem dL_acts_218 : decode cL_acts 218 = .ok (.idiv, 1) := by decide +kernel
theorem dL_acts_219 : decode cL_acts 219 = .ok (.lconst 0, 1) := by decide +kernel
theorem dL_acts_220 : decode cL_acts 220 = .ok (.lastore, 1) := by decide +kernel
theorem dL_acts_221 : decode cL_acts 221 = .ok (.iinc 13 1, 3) := by decide +kernel
theorem dL_acts_224 : decode cL_acts 224 = .ok (.goto (-22), 3) := by decide +kernel
theorem dL_acts_227 : decode cL_acts 227 = .ok (.aload_n 0, 1) := by decide +kernel
theorem dL_acts_228 : decode cL_acts 228 = .ok (.aload_n 1, 1) := by decide +kernel
theorem dL_acts_229 : decode cL_acts 229 = .ok (.iconst 0, 1) := by decide +kernel
theorem dL_acts_230 : decode cL_acts 230 = .ok (.iaload, 1) := by decide +kernel
theorem dL_acts_231 : decode cL_acts 231 = .ok (.invokevirtual 38, 3) := by decide +kernel
theorem dL_acts_234 : decode cL_acts 234 = .ok (.iload 12, 2) := by decide +kernel
theorem dL_acts_236 : decode cL_acts 236 = .ok (.if_icmp .ne 7, 3) := by decide +kernel
theorem dL_acts_239 : decode cL_acts 239 = .ok (.iconst 1, 1) := by decide +kernel
theorem dL_acts_240 : decode cL_acts 240 = .ok (.goto 4, 3) := by decide +kernel
theorem dL_acts_243 : decode cL_acts 243 = .ok (.iconst 0, 1) := by decide +kernel
theorem dL_acts_244 : decode cL_acts 244 = .ok (.ireturn, 1) := by decide +kernel
theorem dL_acts_245 : decode cL_acts 245 = .ok (.iload 7, 2) := by decide +kernel
theorem dL_acts_247 : decode cL_acts 247 = .ok (.iconst 3, 1) := by decide +kernel
theorem dL_acts_248 : decode cL_acts 248 = .ok (.irem, 1) := by decide +kernel
theorem dL_acts_249 : decode cL_acts 249 = .ok (.istore 13, 2) := by decide +kernel
theorem dL_acts_251 : decode cL_acts 251 = .ok (.iload 13, 2) := by decide +kernel
theorem dL_acts_253 : decode cL_acts 253 = .ok (.ifCond .ne 27, 3) := by decide +kernel
theorem dL_acts_256 : decode cL_acts 256 = .ok (.iconst 2, 1) := by decide +kernel
theorem dL_acts_257 : decode cL_acts 257 = .ok (.iload 7, 2) := by decide +kernel
theorem dL_acts_259 : decode cL_acts 259 = .ok (.iconst 3, 1) := by decide +kernel
theorem dL_acts_260 : decode cL_acts 260 = .ok (.idiv, 1) := by decide +kernel
theorem dL_acts_261 : decode cL_acts 261 = .ok (.iload 7, 2) := by decide +kernel
theorem dL_acts_263 : decode cL_acts 263 = .ok (.iconst 2, 1) := by decide +kernel
theorem dL_acts_264 : decode cL_acts 264 = .ok (.irem, 1) := by decide +kernel
theorem dL_acts_265 : decode cL_acts 265 = .ok (.ifCond .ne 8, 3) := by decide +kernel
theorem dL_acts_268 : decode cL_acts 268 = .ok (.bipush 49, 2) := by decide +kernel
theorem dL_acts_270 : decode cL_acts 270 = .ok (.goto 5, 3) := by decide +kernel
theorem dL_acts_273 : decode cL_acts 273 = .ok (.bipush 12, 2) := by decide +kernel
theorem dL_acts_275 : decode cL_acts 275 = .ok (.irem, 1) := by decide +kernel
theorem dL_acts_276 : decode cL_acts 276 = .ok (.iadd, 1) := by decide +kernel
theorem dL_acts_277 : decode cL_acts 277 = .ok (.goto 39, 3) := by decide +kernel
theorem dL_acts_280 : decode cL_acts 280 = .ok (.iload 13, 2) := by decide +kernel
theorem dL_acts_282 : decode cL_acts 282 = .ok (.iconst 1, 1) := by decide +kernel
theorem dL_acts_283 : decode cL_acts 283 = .ok (.if_icmp .ne 12, 3) := by decide +kernel
theorem dL_acts_286 : decode cL_acts 286 = .ok (.iload 7, 2) := by decide +kernel
theorem dL_acts_288 : decode cL_acts 288 = .ok (.iconst 3, 1) := by decide +kernel
theorem dL_acts_289 : decode cL_acts 289 = .ok (.idiv, 1) := by decide +kernel
theorem dL_acts_290 : decode cL_acts 290 = .ok (.iconst 3, 1) := by decide +kernel
theorem dL_acts_291 : decode cL_acts 291 = .ok (.irem, 1) := by decide +kernel
theorem dL_acts_292 : decode cL_acts 292 = .ok (.goto 24, 3) := by decide +kernel
theorem dL_acts_295 : decode cL_acts 295 = .ok (.iconst 1, 1) := by decide +kernel
theorem dL_acts_296 : decode cL_acts 296 = .ok (.iload 7, 2) := by decide +kernel
theorem dL_acts_298 : decode cL_acts 298 = .ok (.iconst 3, 1) := by decide +kernel
theorem dL_acts_299 : decode cL_acts 299 = .ok (.idiv, 1) := by decide +kernel
theorem dL_acts_300 : decode cL_acts 300 = .ok (.iload 7, 2) := by decide +kernel
theorem dL_acts_302 : decode cL_acts 302 = .ok (.iconst 2, 1) := by decide +kernel
theorem dL_acts_303 : decode cL_acts 303 = .ok (.irem, 1) := by decide +kernel
theorem dL_acts_304 : decode cL_acts 304 = .ok (.ifCond .ne 9, 3) := by decide +kernel
theorem dL_acts_307 : decode cL_acts 307 = .ok (.sipush 200, 3) := by decide +kernel
theorem dL_acts_310 : decode cL_acts 310 = .ok (.goto 4, 3) := by decide +kernel
theorem dL_acts_313 : decode cL_acts 313 = .ok (.iconst 4, 1) := by decide +kernel
theorem dL_acts_314 : decode cL_acts 314 = .ok (.irem, 1) := by decide +kernel
theorem dL_acts_315 : decode cL_acts 315 = .ok (.iadd, 1) := by decide +kernel
theorem dL_acts_316 : decode cL_acts 316 = .ok (.istore 14, 2) := by decide +kernel
theorem dL_acts_318 : decode cL_acts 318 = .ok (.aload_n 1, 1) := by decide +kernel
theorem dL_acts_319 : decode cL_acts 319 = .ok (.iconst 1, 1) := by decide +kernel
theorem dL_acts_320 : decode cL_acts 320 = .ok (.iload 13, 2) := by decide +kernel
theorem dL_acts_322 : decode cL_acts 322 = .ok (.iadd, 1) := by decide +kernel
theorem dL_acts_323 : decode cL_acts 323 = .ok (.iaload, 1) := by decide +kernel
theorem dL_acts_324 : decode cL_acts 324 = .ok (.istore 15, 2) := by decide +kernel
theorem dL_acts_326 : decode cL_acts 326 = .ok (.aload_n 1, 1) := by decide +kernel
theorem dL_acts_327 : decode cL_acts 327 = .ok (.iconst 1, 1) := by decide +kernel
theorem dL_acts_328 : decode cL_acts 328 = .ok (.iload 13, 2) := by decide +kernel
theorem dL_acts_330 : decode cL_acts 330 = .ok (.iadd, 1) := by decide +kernel
theorem dL_acts_331 : decode cL_acts 331 = .ok (.iload 14, 2) := by decide +kernel
theorem dL_acts_333 : decode cL_acts 333 = .ok (.iastore, 1) := by decide +kernel
theorem dL_acts_334 : decode cL_acts 334 = .ok (.aload_n 0, 1) := by decide +kernel
theorem dL_acts_335 : decode cL_acts 335 = .ok (.iload 13, 2) := by decide +kernel
theorem dL_acts_337 : decode cL_acts 337 = .ok (.iload 14, 2) := by decide +kernel
theorem dL_acts_339 : decode cL_acts 339 = .ok (.invokevirtual 43, 3) := by decide +kernel
theorem dL_acts_342 : decode cL_acts 342 = .ok (.iload 15, 2) := by decide +kernel
theorem dL_acts_344 : decode cL_acts 344 = .ok (.if_icmp .ne 7, 3) := by decide +kernel
theorem dL_acts_347 : decode cL_acts 347 = .ok (.iconst 1, 1) := by decide +kernel
theorem dL_acts_348 : decode cL_acts 348 = .ok (.goto 4, 3) := by decide +kernel
theorem dL_acts_351 : decode cL_acts 351 = .ok (.iconst 0, 1) := by decide +kernel
theorem dL_acts_352 : decode cL_acts 352 = .ok (.ireturn, 1) := by decide +kernel
theorem dL_acts_353 : decode cL_acts 353 = .ok (.iload 7, 2) := by decide +kernel
theorem dL_acts_355 : decode cL_acts 355 = .ok (.iconst 4, 1) := by decide +kernel
theorem dL_acts_356 : decode cL_acts 356 = .ok (.irem, 1) := by decide +kernel
theorem dL_acts_357 : decode cL_acts 357 = .ok (.istore 16, 2) := by decide +kernel
theorem dL_acts_359 : decode cL_acts 359 = .ok (.iload 7, 2) := by decide +kernel
theorem dL_acts_361 : decode cL_acts 361 = .ok (.iconst 4, 1) := by decide +kernel
theorem dL_acts_362 : decode cL_acts 362 = .ok (.idiv, 1) := by decide +kernel
theorem dL_acts_363 : decode cL_acts 363 = .ok (.iconst 5, 1) := by decide +kernel
theorem dL_acts_364 : decode cL_acts 364 = .ok (.irem, 1) := by decide +kernel
theorem dL_acts_365 : decode cL_acts 365 = .ok (.istore 17, 2) := by decide +kernel
theorem dL_acts_367 : decode cL_acts 367 = .ok (.iload 7, 2) := by decide +kernel
theorem dL_acts_369 : decode cL_acts 369 = .ok (.bipush 20, 2) := by decide +kernel
theorem dL_acts_371 : decode cL_acts 371 = .ok (.idiv, 1) := by decide +kernel
theorem dL_acts_372 : decode cL_acts 372 = .ok (.sipush 128, 3) := by decide +kernel
theorem dL_acts_375 : decode cL_acts 375 = .ok (.irem, 1) := by decide +kernel
theorem dL_acts_376 : decode cL_acts 376 = .ok (.istore 18, 2) := by decide +kernel
theorem dL_acts_378 : decode cL_acts 378 = .ok (.iload 17, 2) := by decide +kernel
theorem dL_acts_380 : decode cL_acts 380 = .ok (.aload 4, 2) := by decide +kernel
theorem dL_acts_382 : decode cL_acts 382 = .ok (.bipush 6, 2) := by decide +kernel
theorem dL_acts_384 : decode cL_acts 384 = .ok (.iload 16, 2) := by decide +kernel
theorem dL_acts_386 : decode cL_acts 386 = .ok (.imul, 1) := by decide +kernel
theorem dL_acts_387 : decode cL_acts 387 = .ok (.iaload, 1) := by decide +kernel
theorem dL_acts_388 : decode cL_acts 388 = .ok (.if_icmp .le 25, 3) := by decide +kernel
theorem dL_acts_391 : decode cL_acts 391 = .ok (.aload_n 0, 1) := by decide +kernel
theorem dL_acts_392 : decode cL_acts 392 = .ok (.iload 16, 2) := by decide +kernel
theorem dL_acts_394 : decode cL_acts 394 = .ok (.iload 17, 2) := by decide +kernel
theorem dL_acts_396 : decode cL_acts 396 = .ok (.iload 18, 2) := by decide +kernel
theorem dL_acts_398 : decode cL_acts 398 = .ok (.invokevirtual 46, 3) := by decide +kernel
theorem dL_acts_401 : decode cL_acts 401 = .ok (.sipush (-1001), 3) := by decide +kernel
theorem dL_acts_404 : decode cL_acts 404 = .ok (.if_icmp .ne 7, 3) := by decide +kernel
theorem dL_acts_407 : decode cL_acts 407 = .ok (.iconst 1, 1) := by decide +kernel
theorem dL_acts_408 : decode cL_acts 408 = .ok (.goto 4, 3) := by decide +kernel
theorem dL_acts_411 : decode cL_acts 411 = .ok (.iconst 0, 1) := by decide +kernel
theorem dL_acts_412 : decode cL_acts 412 = .ok (.ireturn, 1) := by decide +kernel
theorem dL_acts_413 : decode cL_acts 413 = .ok (.aload 4, 2) := by decide +kernel
theorem dL_acts_415 : decode cL_acts 415 = .ok (.bipush 6, 2) := by decide +kernel
theorem dL_acts_417 : decode cL_acts 417 = .ok (.iload 16, 2) := by decide +kernel
theorem dL_acts_419 : decode cL_acts 419 = .ok (.imul, 1) := by decide +kernel
theorem dL_acts_420 : decode cL_acts 420 = .ok (.dup2, 1) := by decide +kernel
theorem dL_acts_421 : decode cL_acts 421 = .ok (.iaload, 1) := by decide +kernel
theorem dL_acts_422 : decode cL_acts 422 = .ok (.iload 17, 2) := by decide +kernel
theorem dL_acts_424 : decode cL_acts 424 = .ok (.aload 4, 2) := by decide +kernel
theorem dL_acts_426 : decode cL_acts 426 = .ok (.bipush 6, 2) := by decide +kernel
theorem dL_acts_428 : decode cL_acts 428 = .ok (.iload 16, 2) := by decide +kernel
theorem dL_acts_430 : decode cL_acts 430 = .ok (.imul, 1) := by decide +kernel
theorem dL_acts_431 : decode cL_acts 431 = .ok (.iaload, 1) := by decide +kernel
theorem dL_acts_432 : decode cL_acts 432 = .ok (.if_icmp .ne 7, 3) := by decide +kernel
theorem dL_acts_435 : decode cL_acts 435 = .ok (.iconst 1, 1) := by decide +kernel
theorem dL_acts_436 : decode cL_acts 436 = .ok (.goto 4, 3) := by decide +kernel
theorem dL_acts_439 : decode cL_acts 439 = .ok (.iconst 0, 1) := by decide +kernel
theorem dL_acts_440 : decode cL_acts 440 = .ok (.iadd, 1) := by decide +kernel
theorem dL_acts_441 : decode cL_acts 441 = .ok (.iastore, 1) := by decide +kernel
theorem dL_acts_442 : decode cL_acts 442 = .ok (.aload 4, 2) := by decide +kernel
theorem dL_acts_444 : decode cL_acts 444 = .ok (.bipush 6, 2) := by decide +kernel
theorem dL_acts_446 : decode cL_acts 446 = .ok (.iload 16, 2) := by decide +kernel
theorem dL_acts_448 : decode cL_acts 448 = .ok (.imul, 1) := by decide +kernel
theorem dL_acts_449 : decode cL_acts 449 = .ok (.iconst 1, 1) := by decide +kernel
theorem dL_acts_450 : decode cL_acts 450 = .ok (.iadd, 1) := by decide +kernel
theorem dL_acts_451 : decode cL_acts 451 = .ok (.iload 17, 2) := by decide +kernel
theorem dL_acts_453 : decode cL_acts 453 = .ok (.iadd, 1) := by decide +kernel
theorem dL_acts_454 : decode cL_acts 454 = .ok (.iload 18, 2) := by decide +kernel
theorem dL_acts_456 : decode cL_acts 456 = .ok (.iastore, 1) := by decide +kernel
theorem dL_acts_457 : decode cL_acts 457 = .ok (.aload_n 0, 1) := by decide +kernel
theorem dL_acts_458 : decode cL_acts 458 = .ok (.iload 16, 2) := by decide +kernel
theorem dL_acts_460 : decode cL_acts 460 = .ok (.iload 17, 2) := by decide +kernel
theorem dL_acts_462 : decode cL_acts 462 = .ok (.iload 18, 2) := by decide +kernel
theorem dL_acts_464 : decode cL_acts 464 = .ok (.invokevirtual 46, 3) := by decide +kernel
theorem dL_acts_467 : decode cL_acts 467 = .ok (.aload 4, 2) := by decide +kernel
theorem dL_acts_469 : decode cL_acts 469 = .ok (.bipush 6, 2) := by decide +kernel
theorem dL_acts_471 : decode cL_acts 471 = .ok (.iload 16, 2) := by decide +kernel
theorem dL_acts_473 : decode cL_acts 473 = .ok (.imul, 1) := by decide +kernel
theorem dL_acts_474 : decode cL_acts 474 = .ok (.iaload, 1) := by decide +kernel
theorem dL_acts_475 : decode cL_acts 475 = .ok (.if_icmp .ne 7, 3) := by decide +kernel
theorem dL_acts_478 : decode cL_acts 478 = .ok (.iconst 1, 1) := by decide +kernel
theorem dL_acts_479 : decode cL_acts 479 = .ok (.goto 4, 3) := by decide +kernel
theorem dL_acts_482 : decode cL_acts 482 = .ok (.iconst 0, 1) := by decide +kernel
theorem dL_acts_483 : decode cL_acts 483 = .ok (.ireturn, 1) := by decide +kernel
theorem dL_acts_484 : decode cL_acts 484 = .ok (.iload 7, 2) := by decide +kernel
theorem dL_acts_486 : decode cL_acts 486 = .ok (.bipush 9, 2) := by decide +kernel
theorem dL_acts_488 : decode cL_acts 488 = .ok (.irem, 1) := by decide +kernel
theorem dL_acts_489 : decode cL_acts 489 = .ok (.ifCond .ne 8, 3) := by decide +kernel
theorem dL_acts_492 : decode cL_acts 492 = .ok (.bipush 26, 2) := by decide +kernel
theorem dL_acts_494 : decode cL_acts 494 = .ok (.goto 7, 3) := by decide +kernel
theorem dL_acts_497 : decode cL_acts 497 = .ok (.iload 7, 2) := by decide +kernel
theorem dL_acts_499 : decode cL_acts 499 = .ok (.iconst 4, 1) := by decide +kernel
theorem dL_acts_500 : decode cL_acts 500 = .ok (.irem, 1) := by decide +kernel
theorem dL_acts_501 : decode cL_acts 501 = .ok (.istore 19, 2) := by decide +kernel
theorem dL_acts_503 : decode cL_acts 503 = .ok (.iload 7, 2) := by decide +kernel
theorem dL_acts_505 : decode cL_acts 505 = .ok (.iconst 4, 1) := by decide +kernel
theorem dL_acts_506 : decode cL_acts 506 = .ok (.idiv, 1) := by decide +kernel
theorem dL_acts_507 : decode cL_acts 507 = .ok (.bipush 6, 2) := by decide +kernel
theorem dL_acts_509 : decode cL_acts 509 = .ok (.irem, 1) := by decide +kernel
theorem dL_acts_510 : decode cL_acts 510 = .ok (.ifCond .ne 7, 3) := by decide +kernel
theorem dL_acts_513 : decode cL_acts 513 = .ok (.iconst (-1), 1) := by decide +kernel
theorem dL_acts_514 : decode cL_acts 514 = .ok (.goto 26, 3) := by decide +kernel
theorem dL_acts_517 : decode cL_acts 517 = .ok (.iload 7, 2) := by decide +kernel
theorem dL_acts_519 : decode cL_acts 519 = .ok (.iconst 4, 1) := by decide +kernel
theorem dL_acts_520 : decode cL_acts 520 = .ok (.idiv, 1) := by decide +kernel
theorem dL_acts_521 : decode cL_acts 521 = .ok (.bipush 6, 2) := by decide +kernel
theorem dL_acts_523 : decode cL_acts 523 = .ok (.irem, 1) := by decide +kernel
theorem dL_acts_524 : decode cL_acts 524 = .ok (.iconst 1, 1) := by decide +kernel
theorem dL_acts_525 : decode cL_acts 525 = .ok (.if_icmp .ne 8, 3) := by decide +kernel
theorem dL_acts_528 : decode cL_acts 528 = .ok (.bipush 26, 2) := by decide +kernel
theorem dL_acts_530 : decode cL_acts 530 = .ok (.goto 10, 3) := by decide +kernel
theorem dL_acts_533 : decode cL_acts 533 = .ok (.iload 7, 2) := by decide +kernel
theorem dL_acts_535 : decode cL_acts 535 = .ok (.bipush 24, 2) := by decide +kernel
theorem dL_acts_537 : decode cL_acts 537 = .ok (.idiv, 1) := by decide +kernel
theorem dL_acts_538 : decode cL_acts 538 = .ok (.iconst 4, 1) := by decide +kernel
theorem dL_acts_539 : decode cL_acts 539 = .ok (.irem, 1) := by decide +kernel
theorem dL_acts_540 : decode cL_acts 540 = .ok (.istore 20, 2) := by decide +kernel
theorem dL_acts_542 : decode cL_acts 542 = .ok (.iload 8, 2) := by decide +kernel
theorem dL_acts_544 : decode cL_acts 544 = .ok (.iconst 4, 1) := by decide +kernel
theorem dL_acts_545 : decode cL_acts 545 = .ok (.if_icmp .ne 23, 3) := by decide +kernel
theorem dL_acts_548 : decode cL_acts 548 = .ok (.aload_n 0, 1) := by decide +kernel
theorem dL_acts_549 : decode cL_acts 549 = .ok (.bipush 27, 2) := by decide +kernel
theorem dL_acts_551 : decode cL_acts 551 = .ok (.iload 20, 2) := by decide +kernel
theorem dL_acts_553 : decode cL_acts 553 = .ok (.invokevirtual 50, 3) := by decide +kernel
theorem dL_acts_556 : decode cL_acts 556 = .ok (.sipush (-1001), 3) := by decide +kernel
theorem dL_acts_559 : decode cL_acts 559 = .ok (.if_icmp .ne 7, 3) := by decide +kernel
theorem dL_acts_562 : decode cL_acts 562 = .ok (.iconst 1, 1) := by decide +kernel
theorem dL_acts_563 : decode cL_acts 563 = .ok (.goto 4, 3) := by decide +kernel
theorem dL_acts_566 : decode cL_acts 566 = .ok (.iconst 0, 1) := by decide +kernel
theorem dL_acts_567 : decode cL_acts 567 = .ok (.ireturn, 1) := by decide +kernel
theorem dL_acts_568 : decode cL_acts 568 = .ok (.aload 5, 2) := by decide +kernel
theorem dL_acts_570 : decode cL_acts 570 = .ok (.bipush 13, 2) := by decide +kernel
theorem dL_acts_572 : decode cL_acts 572 = .ok (.iload 8, 2) := by decide +kernel
theorem dL_acts_574 : decode cL_acts 574 = .ok (.imul, 1) := by decide +kernel
theorem dL_acts_575 : decode cL_acts 575 = .ok (.iload 20, 2) := by decide +kernel
theorem dL_acts_577 : decode cL_acts 577 = .ok (.ifCond .ge 7, 3) := by decide +kernel
theorem dL_acts_580 : decode cL_acts 580 = .ok (.iconst 1, 1) := by decide +kernel
theorem dL_acts_581 : decode cL_acts 581 = .ok (.goto 4, 3) := by decide +kernel
theorem dL_acts_584 : decode cL_acts 584 = .ok (.iconst 2, 1) := by decide +kernel
theorem dL_acts_585 : decode cL_acts 585 = .ok (.iastore, 1) := by decide +kernel
theorem dL_acts_586 : decode cL_acts 586 = .ok (.aload 5, 2) := by decide +kernel
theorem dL_acts_588 : decode cL_acts 588 = .ok (.bipush 13, 2) := by decide +kernel
theorem dL_acts_590 : decode cL_acts 590 = .ok (.iload 8, 2) := by decide +kernel
theorem dL_acts_592 : decode cL_acts 592 = .ok (.imul, 1) := by decide +kernel
theorem dL_acts_593 : decode cL_acts 593 = .ok (.iconst 1, 1) := by decide +kernel
theorem dL_acts_594 : decode cL_acts 594 = .ok (.iadd, 1) := by decide +kernel
theorem dL_acts_595 : decode cL_acts 595 = .ok (.iload 19, 2) := by decide +kernel
theorem dL_acts_597 : decode cL_acts 597 = .ok (.iastore, 1) := by decide +kernel
theorem dL_acts_598 : decode cL_acts 598 = .ok (.aload 5, 2) := by decide +kernel
theorem dL_acts_600 : decode cL_acts 600 = .ok (.bipush 13, 2) := by decide +kernel
theorem dL_acts_602 : decode cL_acts 602 = .ok (.iload 8, 2) := by decide +kernel
theorem dL_acts_604 : decode cL_acts 604 = .ok (.imul, 1) := by decide +kernel
theorem dL_acts_605 : decode cL_acts 605 = .ok (.iconst 2, 1) := by decide +kernel
theorem dL_acts_606 : decode cL_acts 606 = .ok (.iadd, 1) := by decide +kernel
theorem dL_acts_607 : decode cL_acts 607 = .ok (.iload 20, 2) := by decide +kernel
theorem dL_acts_609 : decode cL_acts 609 = .ok (.iastore, 1) := by decide +kernel
theorem dL_acts_610 : decode cL_acts 610 = .ok (.aload 5, 2) := by decide +kernel
theorem dL_acts_612 : decode cL_acts 612 = .ok (.bipush 60, 2) := by decide +kernel
theorem dL_acts_614 : decode cL_acts 614 = .ok (.dup2, 1) := by decide +kernel
theorem dL_acts_615 : decode cL_acts 615 = .ok (.iaload, 1) := by decide +kernel
theorem dL_acts_616 : decode cL_acts 616 = .ok (.iconst 1, 1) := by decide +kernel
theorem dL_acts_617 : decode cL_acts 617 = .ok (.iadd, 1) := by decide +kernel
theorem dL_acts_618 : decode cL_acts 618 = .ok (.iastore, 1) := by decide +kernel
theorem dL_acts_619 : decode cL_acts 619 = .ok (.aload_n 0, 1) := by decide +kernel
theorem dL_acts_620 : decode cL_acts 620 = .ok (.iload 19, 2) := by decide +kernel
theorem dL_acts_622 : decode cL_acts 622 = .ok (.iload 20, 2) := by decide +kernel
theorem dL_acts_624 : decode cL_acts 624 = .ok (.invokevirtual 50, 3) := by decide +kernel
theorem dL_acts_627 : decode cL_acts 627 = .ok (.iload 8, 2) := by decide +kernel
theorem dL_acts_629 : decode cL_acts 629 = .ok (.if_icmp .ne 7, 3) := by decide +kernel
theorem dL_acts_632 : decode cL_acts 632 = .ok (.iconst 1, 1) := by decide +kernel
theorem dL_acts_633 : decode cL_acts 633 = .ok (.goto 4, 3) := by decide +kernel
theorem dL_acts_636 : decode cL_acts 636 = .ok (.iconst 0, 1) := by decide +kernel
theorem dL_acts_637 : decode cL_acts 637 = .ok (.ireturn, 1) := by decide +kernel
theorem dL_acts_638 : decode cL_acts 638 = .ok (.iload 8, 2) := by decide +kernel
theorem dL_acts_640 : decode cL_acts 640 = .ok (.ifCond .eq 10, 3) := by decide +kernel
theorem dL_acts_643 : decode cL_acts 643 = .ok (.iload 7, 2) := by decide +kernel
theorem dL_acts_645 : decode cL_acts 645 = .ok (.iconst 3, 1) := by decide +kernel
theorem dL_acts_646 : decode cL_acts 646 = .ok (.irem, 1) := by decide +kernel
theorem dL_acts_647 : decode cL_acts 647 = .ok (.ifCond .le 21, 3) := by decide +kernel
theorem dL_acts_650 : decode cL_acts 650 = .ok (.aload_n 0, 1) := by decide +kernel
theorem dL_acts_651 : decode cL_acts 651 = .ok (.iload 8, 2) := by decide +kernel
theorem dL_acts_653 : decode cL_acts 653 = .ok (.invokevirtual 53, 3) := by decide +kernel
theorem dL_acts_656 : decode cL_acts 656 = .ok (.sipush (-1001), 3) := by decide +kernel
theorem dL_acts_659 : decode cL_acts 659 = .ok (.if_icmp .ne 7, 3) := by decide +kernel
theorem dL_acts_662 : decode cL_acts 662 = .ok (.iconst 1, 1) := by decide +kernel
theorem dL_acts_663 : decode cL_acts 663 = .ok (.goto 4, 3) := by decide +kernel
theorem dL_acts_666 : decode cL_acts 666 = .ok (.iconst 0, 1) := by decide +kernel
theorem dL_acts_667 : decode cL_acts 667 = .ok (.ireturn, 1) := by decide +kernel
theorem dL_acts_668 : decode cL_acts 668 = .ok (.bipush 13, 2) := by decide +kernel
theorem dL_acts_670 : decode cL_acts 670 = .ok (.iload 9, 2) := by decide +kernel
theorem dL_acts_672 : decode cL_acts 672 = .ok (.imul, 1) := by decide +kernel
theorem dL_acts_673 : decode cL_acts 673 = .ok (.istore 21, 2) := by decide +kernel
theorem dL_acts_675 : decode cL_acts 675 = .ok (.iload 21, 2) := by decide +kernel
theorem dL_acts_677 : decode cL_acts 677 = .ok (.bipush 13, 2) := by decide +kernel
theorem dL_acts_679 : decode cL_acts 679 = .ok (.iadd, 1) := by decide +kernel
theorem dL_acts_680 : decode cL_acts 680 = .ok (.bipush 60, 2) := by decide +kernel
theorem dL_acts_682 : decode cL_acts 682 = .ok (.if_icmp .ge 22, 3) := by decide +kernel
theorem dL_acts_685 : decode cL_acts 685 = .ok (.aload 5, 2) := by decide +kernel
theorem dL_acts_687 : decode cL_acts 687 = .ok (.iload 21, 2) := by decide +kernel
theorem dL_acts_689 : decode cL_acts 689 = .ok (.aload 5, 2) := by decide +kernel
theorem dL_acts_691 : decode cL_acts 691 = .ok (.iload 21, 2) := by decide +kernel
theorem dL_acts_693 : decode cL_acts 693 = .ok (.bipush 13, 2) := by decide +kernel
theorem dL_acts_695 : decode cL_acts 695 = .ok (.iadd, 1) := by decide +kernel
theorem dL_acts_696 : decode cL_acts 696 = .ok (.iaload, 1) := by decide +kernel
theorem dL_acts_697 : decode cL_acts 697 = .ok (.iastore, 1) := by decide +kernel
theorem dL_acts_698 : decode cL_acts 698 = .ok (.iinc 21 1, 3) := by decide +kernel
theorem dL_acts_701 : decode cL_acts 701 = .ok (.goto (-26), 3) := by decide +kernel
theorem dL_acts_704 : decode cL_acts 704 = .ok (.aload 5, 2) := by decide +kernel
theorem dL_acts_706 : decode cL_acts 706 = .ok (.bipush 60, 2) := by decide +kernel
theorem dL_acts_708 : decode cL_acts 708 = .ok (.dup2, 1) := by decide +kernel
theorem dL_acts_709 : decode cL_acts 709 = .ok (.iaload, 1) := by decide +kernel
theorem dL_acts_710 : decode cL_acts 710 = .ok (.iconst 1, 1) := by decide +kernel
theorem dL_acts_711 : decode cL_acts 711 = .ok (.isub, 1) := by decide +kernel
theorem dL_acts_712 : decode cL_acts 712 = .ok (.iastore, 1) := by decide +kernel
theorem dL_acts_713 : decode cL_acts 713 = .ok (.aload_n 0, 1) := by decide +kernel
theorem dL_acts_714 : decode cL_acts 714 = .ok (.iload 9, 2) := by decide +kernel
theorem dL_acts_716 : decode cL_acts 716 = .ok (.invokevirtual 53, 3) := by decide +kernel
theorem dL_acts_719 : decode cL_acts 719 = .ok (.iload 8, 2) := by decide +kernel
theorem dL_acts_721 : decode cL_acts 721 = .ok (.iconst 1, 1) := by decide +kernel
theorem dL_acts_722 : decode cL_acts 722 = .ok (.isub, 1) := by decide +kernel
theorem dL_acts_723 : decode cL_acts 723 = .ok (.if_icmp .ne 7, 3) := by decide +kernel
theorem dL_acts_726 : decode cL_acts 726 = .ok (.iconst 1, 1) := by decide +kernel
theorem dL_acts_727 : decode cL_acts 727 = .ok (.goto 4, 3) := by decide +kernel
theorem dL_acts_730 : decode cL_acts 730 = .ok (.iconst 0, 1) := by decide +kernel
theorem dL_acts_731 : decode cL_acts 731 = .ok (.ireturn, 1) := by decide +kernel
theorem dL_acts_732 : decode cL_acts 732 = .ok (.iload 8, 2) := by decide +kernel
theorem dL_acts_734 : decode cL_acts 734 = .ok (.ifCond .ne 21, 3) := by decide +kernel
theorem dL_acts_737 : decode cL_acts 737 = .ok (.aload_n 0, 1) := by decide +kernel
theorem dL_acts_738 : decode cL_acts 738 = .ok (.iconst 0, 1) := by decide +kernel
theorem dL_acts_739 : decode cL_acts 739 = .ok (.iconst 0, 1) := by decide +kernel
theorem dL_acts_740 : decode cL_acts 740 = .ok (.invokevirtual 56, 3) := by decide +kernel
theorem dL_acts_743 : decode cL_acts 743 = .ok (.sipush (-1001), 3) := by decide +kernel
theorem dL_acts_746 : decode cL_acts 746 = .ok (.if_icmp .ne 7, 3) := by decide +kernel
theorem dL_acts_749 : decode cL_acts 749 = .ok (.iconst 1, 1) := by decide +kernel
theorem dL_acts_750 : decode cL_acts 750 = .ok (.goto 4, 3) := by decide +kernel
theorem dL_acts_753 : decode cL_acts 753 = .ok (.iconst 0, 1) := by decide +kernel
theorem dL_acts_754 : decode cL_acts 754 = .ok (.ireturn, 1) := by decide +kernel
theorem dL_acts_755 : decode cL_acts 755 = .ok (.iload 7, 2) := by decide +kernel
theorem dL_acts_757 : decode cL_acts 757 = .ok (.bipush 8, 2) := by decide +kernel
theorem dL_acts_759 : decode cL_acts 759 = .ok (.idiv, 1) := by decide +kernel
theorem dL_acts_760 : decode cL_acts 760 = .ok (.iconst 2, 1) := by decide +kernel
theorem dL_acts_761 : decode cL_acts 761 = .ok (.irem, 1) := by decide +kernel
theorem dL_acts_762 : decode cL_acts 762 = .ok (.ifCond .ne 7, 3) := by decide +kernel
theorem dL_acts_765 : decode cL_acts 765 = .ok (.iconst 0, 1) := by decide +kernel
theorem dL_acts_766 : decode cL_acts 766 = .ok (.goto 14, 3) := by decide +kernel
theorem dL_acts_769 : decode cL_acts 769 = .ok (.aload_n 1, 1) := by decide +kernel
theorem dL_acts_770 : decode cL_acts 770 = .ok (.aload_n 2, 1) := by decide +kernel
theorem dL_acts_771 : decode cL_acts 771 = .ok (.aload 4, 2) := by decide +kernel
theorem dL_acts_773 : decode cL_acts 773 = .ok (.aload 5, 2) := by decide +kernel
theorem dL_acts_775 : decode cL_acts 775 = .ok (.iload 9, 2) := by decide +kernel
theorem dL_acts_777 : decode cL_acts 777 = .ok (.invokestatic 59, 3) := by decide +kernel
theorem dL_acts_780 : decode cL_acts 780 = .ok (.istore 21, 2) := by decide +kernel
theorem dL_acts_782 : decode cL_acts 782 = .ok (.iconst 0, 1) := by decide +kernel
theorem dL_acts_783 : decode cL_acts 783 = .ok (.istore 22, 2) := by decide +kernel
theorem dL_acts_785 : decode cL_acts 785 = .ok (.iload 22, 2) := by decide +kernel
theorem dL_acts_787 : decode cL_acts 787 = .ok (.aload_n 1, 1) := by decide +kernel
theorem dL_acts_788 : decode cL_acts 788 = .ok (.iconst 0, 1) := by decide +kernel
theorem dL_acts_789 : decode cL_acts 789 = .ok (.iaload, 1) := by decide +kernel
theorem dL_acts_790 : decode cL_acts 790 = .ok (.if_icmp .ge 30, 3) := by decide +kernel
theorem dL_acts_793 : decode cL_acts 793 = .ok (.aload_n 2, 1) := by decide +kernel
theorem dL_acts_794 : decode cL_acts 794 = .ok (.bipush 16, 2) := by decide +kernel
theorem dL_acts_796 : decode cL_acts 796 = .ok (.iload 22, 2) := by decide +kernel
theorem dL_acts_798 : decode cL_acts 798 = .ok (.iadd, 1) := by decide +kernel
theorem dL_acts_799 : decode cL_acts 799 = .ok (.aload_n 1, 1) := by decide +kernel
theorem dL_acts_800 : decode cL_acts 800 = .ok (.aload 4, 2) := by decide +kernel
theorem dL_acts_802 : decode cL_acts 802 = .ok (.aload 5, 2) := by decide +kernel
theorem dL_acts_804 : decode cL_acts 804 = .ok (.iload 9, 2) := by decide +kernel
theorem dL_acts_806 : decode cL_acts 806 = .ok (.iload 21, 2) := by decide +kernel
theorem dL_acts_808 : decode cL_acts 808 = .ok (.iload 22, 2) := by decide +kernel
theorem dL_acts_810 : decode cL_acts 810 = .ok (.invokestatic 25, 3) := by decide +kernel
theorem dL_acts_813 : decode cL_acts 813 = .ok (.iastore, 1) := by decide +kernel
theorem dL_acts_814 : decode cL_acts 814 = .ok (.iinc 22 1, 3) := by decide +kernel
theorem dL_acts_817 : decode cL_acts 817 = .ok (.goto (-32), 3) := by decide +kernel
theorem dL_acts_820 : decode cL_acts 820 = .ok (.aload_n 0, 1) := by decide +kernel
theorem dL_acts_821 : decode cL_acts 821 = .ok (.iload 9, 2) := by decide +kernel
theorem dL_acts_823 : decode cL_acts 823 = .ok (.iload 7, 2) := by decide +kernel
theorem dL_acts_825 : decode cL_acts 825 = .ok (.bipush 8, 2) := by decide +kernel
theorem dL_acts_827 : decode cL_acts 827 = .ok (.idiv, 1) := by decide +kernel
theorem dL_acts_828 : decode cL_acts 828 = .ok (.iconst 2, 1) := by decide +kernel
theorem dL_acts_829 : decode cL_acts 829 = .ok (.irem, 1) := by decide +kernel
theorem dL_acts_830 : decode cL_acts 830 = .ok (.invokevirtual 56, 3) := by decide +kernel
theorem dL_acts_833 : decode cL_acts 833 = .ok (.aload_n 1, 1) := by decide +kernel
theorem dL_acts_834 : decode cL_acts 834 = .ok (.aload_n 2, 1) := by decide +kernel
theorem dL_acts_835 : decode cL_acts 835 = .ok (.invokestatic 63, 3) := by decide +kernel
theorem dL_acts_838 : decode cL_acts 838 = .ok (.if_icmp .ne 7, 3) := by decide +kernel
theorem dL_acts_841 : decode cL_acts 841 = .ok (.iconst 1, 1) := by decide +kernel
theorem dL_acts_842 : decode cL_acts 842 = .ok (.goto 4, 3) := by decide +kernel
theorem dL_acts_845 : decode cL_acts 845 = .ok (.iconst 0, 1) := by decide +kernel
theorem dL_acts_846 : decode cL_acts 846 = .ok (.ireturn, 1) := by decide +kernel
theorem dL_acts_847 : decode cL_acts 847 = .ok (.bipush 16, 2) := by decide +kernel
theorem dL_acts_849 : decode cL_acts 849 = .ok (.istore 22, 2) := by decide +kernel
theorem dL_acts_851 : decode cL_acts 851 = .ok (.iload 22, 2) := by decide +kernel
theorem dL_acts_853 : decode cL_acts 853 = .ok (.bipush 32, 2) := by decide +kernel
theorem dL_acts_855 : decode cL_acts 855 = .ok (.if_icmp .ge 28, 3) := by decide +kernel
theorem dL_acts_858 : decode cL_acts 858 = .ok (.aload_n 2, 1) := by decide +kernel
theorem dL_acts_859 : decode cL_acts 859 = .ok (.iload 22, 2) := by decide +kernel
theorem dL_acts_861 : decode cL_acts 861 = .ok (.iload 7, 2) := by decide +kernel
theorem dL_acts_863 : decode cL_acts 863 = .ok (.iconst 2, 1) := by decide +kernel
theorem dL_acts_864 : decode cL_acts 864 = .ok (.irem, 1) := by decide +kernel
theorem dL_acts_865 : decode cL_acts 865 = .ok (.ifCond .ne 7, 3) := by decide +kernel
theorem dL_acts_868 : decode cL_acts 868 = .ok (.iconst 0, 1) := by decide +kernel
theorem dL_acts_869 : decode cL_acts 869 = .ok (.goto 7, 3) := by decide +kernel
theorem dL_acts_872 : decode cL_acts 872 = .ok (.aload_n 2, 1) := by decide +kernel
theorem dL_acts_873 : decode cL_acts 873 = .ok (.iload 22, 2) := by decide +kernel
theorem dL_acts_875 : decode cL_acts 875 = .ok (.iaload, 1) := by decide +kernel
theorem dL_acts_876 : decode cL_acts 876 = .ok (.iastore, 1) := by decide +kernel
theorem dL_acts_877 : decode cL_acts 877 = .ok (.iinc 22 1, 3) := by decide +kernel
theorem dL_acts_880 : decode cL_acts 880 = .ok (.goto (-29), 3) := by decide +kernel
theorem dL_acts_883 : decode cL_acts 883 = .ok (.iload 7, 2) := by decide +kernel
theorem dL_acts_885 : decode cL_acts 885 = .ok (.iconst 2, 1) := by decide +kernel
theorem dL_acts_886 : decode cL_acts 886 = .ok (.irem, 1) := by decide +kernel
theorem dL_acts_887 : decode cL_acts 887 = .ok (.iconst 1, 1) := by decide +kernel
theorem dL_acts_888 : decode cL_acts 888 = .ok (.if_icmp .eq 15, 3) := by decide +kernel
theorem dL_acts_891 : decode cL_acts 891 = .ok (.aload_n 0, 1) := by decide +kernel
theorem dL_acts_892 : decode cL_acts 892 = .ok (.invokevirtual 67, 3) := by decide +kernel
theorem dL_acts_895 : decode cL_acts 895 = .ok (.aload_n 1, 1) := by decide +kernel
theorem dL_acts_896 : decode cL_acts 896 = .ok (.aload_n 2, 1) := by decide +kernel
theorem dL_acts_897 : decode cL_acts 897 = .ok (.invokestatic 63, 3) := by decide +kernel
theorem dL_acts_900 : decode cL_acts 900 = .ok (.if_icmp .ne 7, 3) := by decide +kernel
theorem dL_acts_903 : decode cL_acts 903 = .ok (.iconst 1, 1) := by decide +kernel
theorem dL_acts_904 : decode cL_acts 904 = .ok (.goto 4, 3) := by decide +kernel
theorem dL_acts_907 : decode cL_acts 907 = .ok (.iconst 0, 1) := by decide +kernel
theorem dL_acts_908 : decode cL_acts 908 = .ok (.ireturn, 1) := by decide +kernel
theorem dL_acts_909 : decode cL_acts 909 = .ok (.aload_n 2, 1) := by decide +kernel
theorem dL_acts_910 : decode cL_acts 910 = .ok (.bipush 32, 2) := by decide +kernel
theorem dL_acts_912 : decode cL_acts 912 = .ok (.iload 10, 2) := by decide +kernel
theorem dL_acts_914 : decode cL_acts 914 = .ok (.iadd, 1) := by decide +kernel
theorem dL_acts_915 : decode cL_acts 915 = .ok (.iaload, 1) := by decide +kernel
theorem dL_acts_916 : decode cL_acts 916 = .ok (.iload 11, 2) := by decide +kernel
theorem dL_acts_918 : decode cL_acts 918 = .ok (.ishr, 1) := by decide +kernel
theorem dL_acts_919 : decode cL_acts 919 = .ok (.iconst 1, 1) := by decide +kernel
theorem dL_acts_920 : decode cL_acts 920 = .ok (.iand, 1) := by decide +kernel
theorem dL_acts_921 : decode cL_acts 921 = .ok (.iconst 1, 1) := by decide +kernel
theorem dL_acts_922 : decode cL_acts 922 = .ok (.if_icmp .ne 7, 3) := by decide +kernel
theorem dL_acts_925 : decode cL_acts 925 = .ok (.iconst 1, 1) := by decide +kernel
theorem dL_acts_926 : decode cL_acts 926 = .ok (.goto 4, 3) := by decide +kernel
theorem dL_acts_929 : decode cL_acts 929 = .ok (.iconst 0, 1) := by decide +kernel
theorem dL_acts_930 : decode cL_acts 930 = .ok (.istore 22, 2) := by decide +kernel
theorem dL_acts_932 : decode cL_acts 932 = .ok (.aload_n 2, 1) := by decide +kernel
theorem dL_acts_933 : decode cL_acts 933 = .ok (.bipush 32, 2) := by decide +kernel
theorem dL_acts_935 : decode cL_acts 935 = .ok (.iload 10, 2) := by decide +kernel
theorem dL_acts_937 : decode cL_acts 937 = .ok (.iadd, 1) := by decide +kernel
theorem dL_acts_938 : decode cL_acts 938 = .ok (.dup2, 1) := by decide +kernel
theorem dL_acts_939 : decode cL_acts 939 = .ok (.iaload, 1) := by decide +kernel
theorem dL_acts_940 : decode cL_acts 940 = .ok (.iconst 1, 1) := by decide +kernel
theorem dL_acts_941 : decode cL_acts 941 = .ok (.iload 11, 2) := by decide +kernel
theorem dL_acts_943 : decode cL_acts 943 = .ok (.ishl, 1) := by decide +kernel
theorem dL_acts_944 : decode cL_acts 944 = .ok (.ior, 1) := by decide +kernel
theorem dL_acts_945 : decode cL_acts 945 = .ok (.iastore, 1) := by decide +kernel
theorem dL_acts_946 : decode cL_acts 946 = .ok (.aload_n 0, 1) := by decide +kernel
theorem dL_acts_947 : decode cL_acts 947 = .ok (.iload 10, 2) := by decide +kernel
theorem dL_acts_949 : decode cL_acts 949 = .ok (.iload 11, 2) := by decide +kernel
theorem dL_acts_951 : decode cL_acts 951 = .ok (.invokevirtual 71, 3) := by decide +kernel
theorem dL_acts_954 : decode cL_acts 954 = .ok (.iload 22, 2) := by decide +kernel
theorem dL_acts_956 : decode cL_acts 956 = .ok (.ifCond .eq 9, 3) := by decide +kernel
theorem dL_acts_959 : decode cL_acts 959 = .ok (.sipush (-1002), 3) := by decide +kernel
theorem dL_acts_962 : decode cL_acts 962 = .ok (.goto 18, 3) := by decide +kernel
theorem dL_acts_965 : decode cL_acts 965 = .ok (.aload_n 3, 1) := by decide +kernel
theorem dL_acts_966 : decode cL_acts 966 = .ok (.iload 10, 2) := by decide +kernel
theorem dL_acts_968 : decode cL_acts 968 = .ok (.laload, 1) := by decide +kernel
theorem dL_acts_969 : decode cL_acts 969 = .ok (.bipush 8, 2) := by decide +kernel
theorem dL_acts_971 : decode cL_acts 971 = .ok (.iload 11, 2) := by decide +kernel
theorem dL_acts_973 : decode cL_acts 973 = .ok (.imul, 1) := by decide +kernel
theorem dL_acts_974 : decode cL_acts 974 = .ok (.lshr, 1) := by decide +kernel
theorem dL_acts_975 : decode cL_acts 975 = .ok (.ldc2_w 19, 3) := by decide +kernel
theorem dL_acts_978 : decode cL_acts 978 = .ok (.land, 1) := by decide +kernel
theorem dL_acts_979 : decode cL_acts 979 = .ok (.l2i, 1) := by decide +kernel
theorem dL_acts_980 : decode cL_acts 980 = .ok (.if_icmp .ne 7, 3) := by decide +kernel
theorem dL_acts_983 : decode cL_acts 983 = .ok (.iconst 1, 1) := by decide +kernel
theorem dL_acts_984 : decode cL_acts 984 = .ok (.goto 4, 3) := by decide +kernel
theorem dL_acts_987 : decode cL_acts 987 = .ok (.iconst 0, 1) := by decide +kernel
theorem dL_acts_988 : decode cL_acts 988 = .ok (.ireturn, 1) := by decide +kernel
theorem dL_acts_989 : decode cL_acts 989 = .ok (.aload_n 2, 1) := by decide +kernel
theorem dL_acts_990 : decode cL_acts 990 = .ok (.bipush 32, 2) := by decide +kernel
theorem dL_acts_992 : decode cL_acts 992 = .ok (.iload 10, 2) := by decide +kernel
theorem dL_acts_994 : decode cL_acts 994 = .ok (.iadd, 1) := by decide +kernel
theorem dL_acts_995 : decode cL_acts 995 = .ok (.iaload, 1) := by decide +kernel
theorem dL_acts_996 : decode cL_acts 996 = .ok (.iload 11, 2) := by decide +kernel
theorem dL_acts_998 : decode cL_acts 998 = .ok (.ishr, 1) := by decide +kernel
theorem dL_acts_999 : decode cL_acts 999 = .ok (.iconst 1, 1) := by decide +kernel
theorem dL_acts_1000 : decode cL_acts 1000 = .ok (.iand, 1) := by decide +kernel
theorem dL_acts_1001 : decode cL_acts 1001 = .ok (.istore 23, 2) := by decide +kernel
theorem dL_acts_1003 : decode cL_acts 1003 = .ok (.aload_n 2, 1) := by decide +kernel
theorem dL_acts_1004 : decode cL_acts 1004 = .ok (.bipush 32, 2) := by decide +kernel
theorem dL_acts_1006 : decode cL_acts 1006 = .ok (.iload 10, 2) := by decide +kernel
theorem dL_acts_1008 : decode cL_acts 1008 = .ok (.iadd, 1) := by decide +kernel
theorem dL_acts_1009 : decode cL_acts 1009 = .ok (.dup2, 1) := by decide +kernel
theorem dL_acts_1010 : decode cL_acts 1010 = .ok (.iaload, 1) := by decide +kernel
theorem dL_acts_1011 : decode cL_acts 1011 = .ok (.iconst 1, 1) := by decide +kernel
theorem dL_acts_1012 : decode cL_acts 1012 = .ok (.iload 11, 2) := by decide +kernel
theorem dL_acts_1014 : decode cL_acts 1014 = .ok (.ishl, 1) := by decide +kernel
theorem dL_acts_1015 : decode cL_acts 1015 = .ok (.iconst (-1), 1) := by decide +kernel
theorem dL_acts_1016 : decode cL_acts 1016 = .ok (.ixor, 1) := by decide +kernel
theorem dL_acts_1017 : decode cL_acts 1017 = .ok (.iand, 1) := by decide +kernel
theorem dL_acts_1018 : decode cL_acts 1018 = .ok (.iastore, 1) := by decide +kernel
theorem dL_acts_1019 : decode cL_acts 1019 = .ok (.aload_n 2, 1) := by decide +kernel
theorem dL_acts_1020 : decode cL_acts 1020 = .ok (.bipush 48, 2) := by decide +kernel
theorem dL_acts_1022 : decode cL_acts 1022 = .ok (.iload 10, 2) := by decide +kernel
theorem dL_acts_1024 : decode cL_acts 1024 = .ok (.iadd, 1) := by decide +kernel
theorem dL_acts_1025 : decode cL_acts 1025 = .ok (.dup2, 1) := by decide +kernel
theorem dL_acts_1026 : decode cL_acts 1026 = .ok (.iaload, 1) := by decide +kernel
theorem dL_acts_1027 : decode cL_acts 1027 = .ok (.iconst 1, 1) := by decide +kernel
theorem dL_acts_1028 : decode cL_acts 1028 = .ok (.iload 11, 2) := by decide +kernel
theorem dL_acts_1030 : decode cL_acts 1030 = .ok (.ishl, 1) := by decide +kernel
theorem dL_acts_1031 : decode cL_acts 1031 = .ok (.iconst (-1), 1) := by decide +kernel
theorem dL_acts_1032 : decode cL_acts 1032 = .ok (.ixor, 1) := by decide +kernel
theorem dL_acts_1033 : decode cL_acts 1033 = .ok (.iand, 1) := by decide +kernel
theorem dL_acts_1034 : decode cL_acts 1034 = .ok (.iastore, 1) := by decide +kernel
theorem dL_acts_1035 : decode cL_acts 1035 = .ok (.aload_n 3, 1) := by decide +kernel
theorem dL_acts_1036 : decode cL_acts 1036 = .ok (.iload 10, 2) := by decide +kernel
theorem dL_acts_1038 : decode cL_acts 1038 = .ok (.dup2, 1) := by decide +kernel
theorem dL_acts_1039 : decode cL_acts 1039 = .ok (.laload, 1) := by decide +kernel
theorem dL_acts_1040 : decode cL_acts 1040 = .ok (.ldc2_w 19, 3) := by decide +kernel
theorem dL_acts_1043 : decode cL_acts 1043 = .ok (.bipush 8, 2) := by decide +kernel
theorem dL_acts_1045 : decode cL_acts 1045 = .ok (.iload 11, 2) := by decide +kernel
theorem dL_acts_1047 : decode cL_acts 1047 = .ok (.imul, 1) := by decide +kernel
theorem dL_acts_1048 : decode cL_acts 1048 = .ok (.lshl, 1) := by decide +kernel
theorem dL_acts_1049 : decode cL_acts 1049 = .ok (.ldc2_w 74, 3) := by decide +kernel
theorem dL_acts_1052 : decode cL_acts 1052 = .ok (.lxor, 1) := by decide +kernel
theorem dL_acts_1053 : decode cL_acts 1053 = .ok (.land, 1) := by decide +kernel
theorem dL_acts_1054 : decode cL_acts 1054 = .ok (.lastore, 1) := by decide +kernel
theorem dL_acts_1055 : decode cL_acts 1055 = .ok (.aload_n 0, 1) := by decide +kernel
theorem dL_acts_1056 : decode cL_acts 1056 = .ok (.iload 10, 2) := by decide +kernel
theorem dL_acts_1058 : decode cL_acts 1058 = .ok (.iload 11, 2) := by decide +kernel
theorem dL_acts_1060 : decode cL_acts 1060 = .ok (.invokevirtual 76, 3) := by decide +kernel
theorem dL_acts_1063 : decode cL_acts 1063 = .ok (.iload 23, 2) := by decide +kernel
theorem dL_acts_1065 : decode cL_acts 1065 = .ok (.if_icmp .ne 7, 3) := by decide +kernel
theorem dL_acts_1068 : decode cL_acts 1068 = .ok (.iconst 1, 1) := by decide +kernel
theorem dL_acts_1069 : decode cL_acts 1069 = .ok (.goto 4, 3) := by decide +kernel
theorem dL_acts_1072 : decode cL_acts 1072 = .ok (.iconst 0, 1) := by decide +kernel
theorem dL_acts_1073 : decode cL_acts 1073 = .ok (.ireturn, 1) := by decide +kernel
theorem dL_acts_1074 : decode cL_acts 1074 = .ok (.iload 7, 2) := by decide +kernel
theorem dL_acts_1076 : decode cL_acts 1076 = .ok (.bipush 9, 2) := by decide +kernel
theorem dL_acts_1078 : decode cL_acts 1078 = .ok (.irem, 1) := by decide +kernel
theorem dL_acts_1079 : decode cL_acts 1079 = .ok (.ifCond .ne 16, 3) := by decide +kernel
theorem dL_acts_1082 : decode cL_acts 1082 = .ok (.iconst 1, 1) := by decide +kernel
theorem dL_acts_1083 : decode cL_acts 1083 = .ok (.iload 7, 2) := by decide +kernel
theorem dL_acts_1085 : decode cL_acts 1085 = .ok (.bipush 9, 2) := by decide +kernel
theorem dL_acts_1087 : decode cL_acts 1087 = .ok (.idiv, 1) := by decide +kernel
theorem dL_acts_1088 : decode cL_acts 1088 = .ok (.bipush 30, 2) := by decide +kernel
theorem dL_acts_1090 : decode cL_acts 1090 = .ok (.irem, 1) := by decide +kernel
theorem dL_acts_1091 : decode cL_acts 1091 = .ok (.iadd, 1) := by decide +kernel
theorem dL_acts_1092 : decode cL_acts 1092 = .ok (.goto 9, 3) := by decide +kernel
theorem dL_acts_1095 : decode cL_acts 1095 = .ok (.iconst 1, 1) := by decide +kernel
theorem dL_acts_1096 : decode cL_acts 1096 = .ok (.iload 7, 2) := by decide +kernel
theorem dL_acts_1098 : decode cL_acts 1098 = .ok (.iconst 3, 1) := by decide +kernel
theorem dL_acts_1099 : decode cL_acts 1099 = .ok (.irem, 1) := by decide +kernel
theorem dL_acts_1100 : decode cL_acts 1100 = .ok (.iadd, 1) := by decide +kernel
theorem dL_acts_1101 : decode cL_acts 1101 = .ok (.istore 24, 2) := by decide +kernel
theorem dL_acts_1103 : decode cL_acts 1103 = .ok (.iconst 0, 1) := by decide +kernel
theorem dL_acts_1104 : decode cL_acts 1104 = .ok (.istore 25, 2) := by decide +kernel
theorem dL_acts_1106 : decode cL_acts 1106 = .ok (.iload 25, 2) := by decide +kernel
theorem dL_acts_1108 : decode cL_acts 1108 = .ok (.iload 24, 2) := by decide +kernel
theorem dL_acts_1110 : decode cL_acts 1110 = .ok (.if_icmp .ge 15, 3) := by decide +kernel
theorem dL_acts_1113 : decode cL_acts 1113 = .ok (.aload_n 1, 1) := by decide +kernel
theorem dL_acts_1114 : decode cL_acts 1114 = .ok (.aload_n 2, 1) := by decide +kernel
theorem dL_acts_1115 : decode cL_acts 1115 = .ok (.aload_n 3, 1) := by decide +kernel
theorem dL_acts_1116 : decode cL_acts 1116 = .ok (.invokestatic 79, 3) := by decide +kernel
theorem dL_acts_1119 : decode cL_acts 1119 = .ok (.iinc 25 1, 3) := by decide +kernel
theorem dL_acts_1122 : decode cL_acts 1122 = .ok (.goto (-16), 3) := by decide +kernel
theorem dL_acts_1125 : decode cL_acts 1125 = .ok (.aload_n 0, 1) := by decide +kernel
theorem dL_acts_1126 : decode cL_acts 1126 = .ok (.iload 24, 2) := by decide +kernel
theorem dL_acts_1128 : decode cL_acts 1128 = .ok (.invokevirtual 83, 3) := by decide +kernel
theorem dL_acts_1131 : decode cL_acts 1131 = .ok (.aload_n 1, 1) := by decide +kernel
theorem dL_acts_1132 : decode cL_acts 1132 = .ok (.aload_n 2, 1) := by decide +kernel
theorem dL_acts_1133 : decode cL_acts 1133 = .ok (.invokestatic 63, 3) := by decide +kernel
theorem dL_acts_1136 : decode cL_acts 1136 = .ok (.if_icmp .ne 7, 3) := by decide +kernel
theorem dL_acts_1139 : decode cL_acts 1139 = .ok (.iconst 1, 1) := by decide +kernel
theorem dL_acts_1140 : decode cL_acts 1140 = .ok (.goto 4, 3) := by decide +kernel
theorem dL_acts_1143 : decode cL_acts 1143 = .ok (.iconst 0, 1) := by decide +kernel
theorem dL_acts_1144 : decode cL_acts 1144 = .ok (.ireturn, 1) := by decide +kernel
theorem dL_isSo_0 : decode cL_isSo 0 = .ok (.aload_n 0, 1) := by decide +kernel
theorem dL_isSo_1 : decode cL_isSo 1 = .ok (.iconst 0, 1) := by decide +kernel
theorem dL_isSo_2 : decode cL_isSo 2 = .ok (.invokevirtual 86, 3) := by decide +kernel
theorem dL_isSo_5 : decode cL_isSo 5 = .ok (.aload_n 1, 1) := by decide +kernel
theorem dL_isSo_6 : decode cL_isSo 6 = .ok (.iconst 0, 1) := by decide +kernel
theorem dL_isSo_7 : decode cL_isSo 7 = .ok (.iaload, 1) := by decide +kernel
theorem dL_isSo_8 : decode cL_isSo 8 = .ok (.if_icmp .ne 116, 3) := by decide +kernel
theorem dL_isSo_11 : decode cL_isSo 11 = .ok (.aload_n 0, 1) := by decide +kernel
theorem dL_isSo_12 : decode cL_isSo 12 = .ok (.iconst 1, 1) := by decide +kernel
theorem dL_isSo_13 : decode cL_isSo 13 = .ok (.invokevirtual 86, 3) := by decide +kernel
theorem dL_isSo_16 : decode cL_isSo 16 = .ok (.aload_n 1, 1) := by decide +kernel
theorem dL_isSo_17 : decode cL_isSo 17 = .ok (.iconst 1, 1) := by decide +kernel
theorem dL_isSo_18 : decode cL_isSo 18 = .ok (.iaload, 1) := by decide +kernel
theorem dL_isSo_19 : decode cL_isSo 19 = .ok (.if_icmp .ne 105, 3) := by decide +kernel
theorem dL_isSo_22 : decode cL_isSo 22 = .ok (.aload_n 0, 1) := by decide +kernel
theorem dL_isSo_23 : decode cL_isSo 23 = .ok (.iconst 2, 1) := by decide +kernel
theorem dL_isSo_24 : decode cL_isSo 24 = .ok (.invokevirtual 86, 3) := by decide +kernel
theorem dL_isSo_27 : decode cL_isSo 27 = .ok (.aload_n 1, 1) := by decide +kernel
theorem dL_isSo_28 : decode cL_isSo 28 = .ok (.iconst 2, 1) := by decide +kernel
theorem dL_isSo_29 : decode cL_isSo 29 = .ok (.iaload, 1) := by decide +kernel
theorem dL_isSo_30 : decode cL_isSo 30 = .ok (.if_icmp .ne 94, 3) := by decide +kernel
theorem dL_isSo_33 : decode cL_isSo 33 = .ok (.aload_n 0, 1) := by decide +kernel
theorem dL_isSo_34 : decode cL_isSo 34 = .ok (.iconst 3, 1) := by decide +kernel
theorem dL_isSo_35 : decode cL_isSo 35 = .ok (.invokevirtual 86, 3) := by decide +kernel
theorem dL_isSo_38 : decode cL_isSo 38 = .ok (.aload_n 1, 1) := by decide +kernel
theorem dL_isSo_39 : decode cL_isSo 39 = .ok (.iconst 3, 1) := by decide +kernel
theorem dL_isSo_40 : decode cL_isSo 40 = .ok (.iaload, 1) := by decide +kernel
theorem dL_isSo_41 : decode cL_isSo 41 = .ok (.if_icmp .ne 83, 3) := by decide +kernel
theorem dL_isSo_44 : decode cL_isSo 44 = .ok (.aload_n 0, 1) := by decide +kernel
theorem dL_isSo_45 : decode cL_isSo 45 = .ok (.iconst 4, 1) := by decide +kernel
theorem dL_isSo_46 : decode cL_isSo 46 = .ok (.invokevirtual 86, 3) := by decide +kernel
theorem dL_isSo_49 : decode cL_isSo 49 = .ok (.aload 5, 2) := by decide +kernel
theorem dL_isSo_51 : decode cL_isSo 51 = .ok (.bipush 60, 2) := by decide +kernel
theorem dL_isSo_53 : decode cL_isSo 53 = .ok (.iaload, 1) := by decide +kernel
theorem dL_isSo_54 : decode cL_isSo 54 = .ok (.if_icmp .ne 70, 3) := by decide +kernel
theorem dL_isSo_57 : decode cL_isSo 57 = .ok (.aload_n 0, 1) := by decide +kernel
theorem dL_isSo_58 : decode cL_isSo 58 = .ok (.iconst 5, 1) := by decide +kernel
theorem dL_isSo_59 : decode cL_isSo 59 = .ok (.invokevirtual 86, 3) := by decide +kernel
theorem dL_isSo_62 : decode cL_isSo 62 = .ok (.aload_n 1, 1) := by decide +kernel
theorem dL_isSo_63 : decode cL_isSo 63 = .ok (.aload_n 2, 1) := by decide +kernel
theorem dL_isSo_64 : decode cL_isSo 64 = .ok (.invokestatic 63, 3) := by decide +kernel
theorem dL_isSo_67 : decode cL_isSo 67 = .ok (.if_icmp .ne 57, 3) := by decide +kernel
theorem dL_isSo_70 : decode cL_isSo 70 = .ok (.aload_n 0, 1) := by decide +kernel
theorem dL_isSo_71 : decode cL_isSo 71 = .ok (.bipush 9, 2) := by decide +kernel
theorem dL_isSo_73 : decode cL_isSo 73 = .ok (.invokevirtual 86, 3) := by decide +kernel
theorem dL_isSo_76 : decode cL_isSo 76 = .ok (.aload_n 1, 1) := by decide +kernel
theorem dL_isSo_77 : decode cL_isSo 77 = .ok (.iconst 4, 1) := by decide +kernel
theorem dL_isSo_78 : decode cL_isSo 78 = .ok (.iaload, 1) := by decide +kernel
theorem dL_isSo_79 : decode cL_isSo 79 = .ok (.if_icmp .ne 45, 3) := by decide +kernel
theorem dL_isSo_82 : decode cL_isSo 82 = .ok (.aload_n 0, 1) := by decide +kernel
theorem dL_isSo_83 : decode cL_isSo 83 = .ok (.bipush 10, 2) := by decide +kernel
theorem dL_isSo_85 : decode cL_isSo 85 = .ok (.invokevirtual 86, 3) := by decide +kernel
theorem dL_isSo_88 : decode cL_isSo 88 = .ok (.aload_n 1, 1) := by decide +kernel
theorem dL_isSo_89 : decode cL_isSo 89 = .ok (.iconst 5, 1) := by decide +kernel
theorem dL_isSo_90 : decode cL_isSo 90 = .ok (.iaload, 1) := by decide +kernel
theorem dL_isSo_91 : decode cL_isSo 91 = .ok (.if_icmp .ne 33, 3) := by decide +kernel
theorem dL_isSo_94 : decode cL_isSo 94 = .ok (.aload_n 0, 1) := by decide +kernel
theorem dL_isSo_95 : decode cL_isSo 95 = .ok (.bipush 11, 2) := by decide +kernel
theorem dL_isSo_97 : decode cL_isSo 97 = .ok (.invokevirtual 86, 3) := by decide +kernel
theorem dL_isSo_100 : decode cL_isSo 100 = .ok (.aload_n 1, 1) := by decide +kernel
theorem dL_isSo_101 : decode cL_isSo 101 = .ok (.bipush 6, 2) := by decide +kernel
theorem dL_isSo_103 : decode cL_isSo 103 = .ok (.iaload, 1) := by decide +kernel
theorem dL_isSo_104 : decode cL_isSo 104 = .ok (.if_icmp .ne 20, 3) := by decide +kernel
theorem dL_isSo_107 : decode cL_isSo 107 = .ok (.aload_n 0, 1) := by decide +kernel
theorem dL_isSo_108 : decode cL_isSo 108 = .ok (.bipush 12, 2) := by decide +kernel
theorem dL_isSo_110 : decode cL_isSo 110 = .ok (.invokevirtual 86, 3) := by decide +kernel
theorem dL_isSo_113 : decode cL_isSo 113 = .ok (.aload_n 1, 1) := by decide +kernel
theorem dL_isSo_114 : decode cL_isSo 114 = .ok (.bipush 7, 2) := by decide +kernel
theorem dL_isSo_116 : decode cL_isSo 116 = .ok (.iaload, 1) := by decide +kernel
theorem dL_isSo_117 : decode cL_isSo 117 = .ok (.if_icmp .ne 7, 3) := by decide +kernel
theorem dL_isSo_120 : decode cL_isSo 120 = .ok (.iconst 1, 1) := by decide +kernel
theorem dL_isSo_121 : decode cL_isSo 121 = .ok (.goto 4, 3) := by decide +kernel
theorem dL_isSo_124 : decode cL_isSo 124 = .ok (.iconst 0, 1) := by decide +kernel
theorem dL_isSo_125 : decode cL_isSo 125 = .ok (.istore 6, 2) := by decide +kernel
theorem dL_isSo_127 : decode cL_isSo 127 = .ok (.iconst 0, 1) := by decide +kernel
theorem dL_isSo_128 : decode cL_isSo 128 = .ok (.istore 7, 2) := by decide +kernel
theorem dL_isSo_130 : decode cL_isSo 130 = .ok (.iconst 0, 1) := by decide +kernel
theorem dL_isSo_131 : decode cL_isSo 131 = .ok (.istore 8, 2) := by decide +kernel
theorem dL_isSo_133 : decode cL_isSo 133 = .ok (.iconst 0, 1) := by decide +kernel
theorem dL_isSo_134 : decode cL_isSo 134 = .ok (.istore 9, 2) := by decide +kernel
theorem dL_isSo_136 : decode cL_isSo 136 = .ok (.iconst 0, 1) := by decide +kernel
theorem dL_isSo_137 : decode cL_isSo 137 = .ok (.istore 10, 2) := by decide +kernel
theorem dL_isSo_139 : decode cL_isSo 139 = .ok (.iload 10, 2) := by decide +kernel
theorem dL_isSo_141 : decode cL_isSo 141 = .ok (.aload_n 1, 1) := by decide +kernel
theorem dL_isSo_142 : decode cL_isSo 142 = .ok (.iconst 0, 1) := by decide +kernel
theorem dL_isSo_143 : decode cL_isSo 143 = .ok (.iaload, 1) := by decide +kernel
theorem dL_isSo_144 : decode cL_isSo 144 = .ok (.if_icmp .ge 190, 3) := by decide +kernel
theorem dL_isSo_147 : decode cL_isSo 147 = .ok (.iload 6, 2) := by decide +kernel
theorem dL_isSo_149 : decode cL_isSo 149 = .ok (.ifCond .eq 185, 3) := by decide +kernel
theorem dL_isSo_152 : decode cL_isSo 152 = .ok (.iload 7, 2) := by decide +kernel
theorem dL_isSo_154 : decode cL_isSo 154 = .ok (.aload_n 2, 1) := by decide +kernel
theorem dL_isSo_155 : decode cL_isSo 155 = .ok (.bipush 32, 2) := by decide +kernel
theorem dL_isSo_157 : decode cL_isSo 157 = .ok (.iload 10, 2) := by decide +kernel
theorem dL_isSo_159 : decode cL_isSo 159 = .ok (.iadd, 1) := by decide +kernel
theorem dL_isSo_160 : decode cL_isSo 160 = .ok (.iaload, 1) := by decide +kernel
theorem dL_isSo_161 : decode cL_isSo 161 = .ok (.invokestatic 15, 3) := by decide +kernel
theorem dL_isSo_164 : decode cL_isSo 164 = .ok (.iadd, 1) := by decide +kernel
theorem dL_isSo_165 : decode cL_isSo 165 = .ok (.istore 7, 2) := by decide +kernel
theorem dL_isSo_167 : decode cL_isSo 167 = .ok (.iload 8, 2) := by decide +kernel
theorem dL_isSo_169 : decode cL_isSo 169 = .ok (.aload_n 2, 1) := by decide +kernel
theorem dL_isSo_170 : decode cL_isSo 170 = .ok (.bipush 48, 2) := by decide +kernel
theorem dL_isSo_172 : decode cL_isSo 172 = .ok (.iload 10, 2) := by decide +kernel
theorem dL_isSo_174 : decode cL_isSo 174 = .ok (.iadd, 1) := by decide +kernel
theorem dL_isSo_175 : decode cL_isSo 175 = .ok (.iaload, 1) := by decide +kernel
theorem dL_isSo_176 : decode cL_isSo 176 = .ok (.invokestatic 15, 3) := by decide +kernel
theorem dL_isSo_179 : decode cL_isSo 179 = .ok (.iadd, 1) := by decide +kernel
theorem dL_isSo_180 : decode cL_isSo 180 = .ok (.istore 8, 2) := by decide +kernel
theorem dL_isSo_182 : decode cL_isSo 182 = .ok (.iload 9, 2) := by decide +kernel
theorem dL_isSo_184 : decode cL_isSo 184 = .ok (.aload_n 2, 1) := by decide +kernel
theorem dL_isSo_185 : decode cL_isSo 185 = .ok (.iload 10, 2) := by decide +kernel
theorem dL_isSo_187 : decode cL_isSo 187 = .ok (.iaload, 1) := by decide +kernel
theorem dL_isSo_188 : decode cL_isSo 188 = .ok (.aload_n 2, 1) := by decide +kernel
theorem dL_isSo_189 : decode cL_isSo 189 = .ok (.bipush 16, 2) := by decide +kernel
theorem dL_isSo_191 : decode cL_isSo 191 = .ok (.iload 10, 2) := by decide +kernel
theorem dL_isSo_193 : decode cL_isSo 193 = .ok (.iadd, 1) := by decide +kernel
theorem dL_isSo_194 : decode cL_isSo 194 = .ok (.iaload, 1) := by decide +kernel
theorem dL_isSo_195 : decode cL_isSo 195 = .ok (.ixor, 1) := by decide +kernel
theorem dL_isSo_196 : decode cL_isSo 196 = .ok (.invokestatic 15, 3) := by decide +kernel
theorem dL_isSo_199 : decode cL_isSo 199 = .ok (.iadd, 1) := by decide +kernel
theorem dL_isSo_200 : decode cL_isSo 200 = .ok (.istore 9, 2) := by decide +kernel
theorem dL_isSo_202 : decode cL_isSo 202 = .ok (.aload_n 0, 1) := by decide +kernel
theorem dL_isSo_203 : decode cL_isSo 203 = .ok (.iload 10, 2) := by decide +kernel
theorem dL_isSo_205 : decode cL_isSo 205 = .ok (.iconst 0, 1) := by decide +kernel
theorem dL_isSo_206 : decode cL_isSo 206 = .ok (.invokevirtual 89, 3) := by decide +kernel
theorem dL_isSo_209 : decode cL_isSo 209 = .ok (.aload_n 2, 1) := by decide +kernel
theorem dL_isSo_210 : decode cL_isSo 210 = .ok (.iload 10, 2) := by decide +kernel
theorem dL_isSo_212 : decode cL_isSo 212 = .ok (.iaload, 1) := by decide +kernel
theorem dL_isSo_213 : decode cL_isSo 213 = .ok (.if_icmp .ne 58, 3) := by decide +kernel
theorem dL_isSo_216 : decode cL_isSo 216 = .ok (.aload_n 0, 1) := by decide +kernel
theorem dL_isSo_217 : decode cL_isSo 217 = .ok (.iload 10, 2) := by decide +kernel
theorem dL_isSo_219 : decode cL_isSo 219 = .ok (.iconst 1, 1) := by decide +kernel
theorem dL_isSo_220 : decode cL_isSo 220 = .ok (.invokevirtual 89, 3) := by decide +kernel
theorem dL_isSo_223 : decode cL_isSo 223 = .ok (.aload_n 2, 1) := by decide +kernel
theorem dL_isSo_224 : decode cL_isSo 224 = .ok (.bipush 16, 2) := by decide +kernel
theorem dL_isSo_226 : decode cL_isSo 226 = .ok (.iload 10, 2) := by decide +kernel
theorem dL_isSo_228 : decode cL_isSo 228 = .ok (.iadd, 1) := by decide +kernel
theorem dL_isSo_229 : decode cL_isSo 229 = .ok (.iaload, 1) := by decide +kernel
theorem dL_isSo_230 : decode cL_isSo 230 = .ok (.if_icmp .ne 41, 3) := by decide +kernel
theorem dL_isSo_233 : decode cL_isSo 233 = .ok (.aload_n 0, 1) := by decide +kernel
theorem dL_isSo_234 : decode cL_isSo 234 = .ok (.iload 10, 2) := by decide +kernel
theorem dL_isSo_236 : decode cL_isSo 236 = .ok (.iconst 2, 1) := by decide +kernel
theorem dL_isSo_237 : decode cL_isSo 237 = .ok (.invokevirtual 89, 3) := by decide +kernel
theorem dL_isSo_240 : decode cL_isSo 240 = .ok (.aload_n 2, 1) := by decide +kernel
theorem dL_isSo_241 : decode cL_isSo 241 = .ok (.bipush 32, 2) := by decide +kernel
theorem dL_isSo_243 : decode cL_isSo 243 = .ok (.iload 10, 2) := by decide +kernel
theorem dL_isSo_245 : decode cL_isSo 245 = .ok (.iadd, 1) := by decide +kernel
theorem dL_isSo_246 : decode cL_isSo 246 = .ok (.iaload, 1) := by decide +kernel
theorem dL_isSo_247 : decode cL_isSo 247 = .ok (.if_icmp .ne 24, 3) := by decide +kernel
theorem dL_isSo_250 : decode cL_isSo 250 = .ok (.aload_n 0, 1) := by decide +kernel
theorem dL_isSo_251 : decode cL_isSo 251 = .ok (.iload 10, 2) := by decide +kernel
theorem dL_isSo_253 : decode cL_isSo 253 = .ok (.iconst 3, 1) := by decide +kernel
theorem dL_isSo_254 : decode cL_isSo 254 = .ok (.invokevirtual 89, 3) := by decide +kernel
theorem dL_isSo_257 : decode cL_isSo 257 = .ok (.aload_n 2, 1) := by decide +kernel
theorem dL_isSo_258 : decode cL_isSo 258 = .ok (.bipush 48, 2) := by decide +kernel
theorem dL_isSo_260 : decode cL_isSo 260 = .ok (.iload 10, 2) := by decide +kernel
theorem dL_isSo_262 : decode cL_isSo 262 = .ok (.iadd, 1) := by decide +kernel
theorem dL_isSo_263 : decode cL_isSo 263 = .ok (.iaload, 1) := by decide +kernel
theorem dL_isSo_264 : decode cL_isSo 264 = .ok (.if_icmp .ne 7, 3) := by decide +kernel
theorem dL_isSo_267 : decode cL_isSo 267 = .ok (.iconst 1, 1) := by decide +kernel
theorem dL_isSo_268 : decode cL_isSo 268 = .ok (.goto 4, 3) := by decide +kernel
theorem dL_isSo_271 : decode cL_isSo 271 = .ok (.iconst 0, 1) := by decide +kernel
theorem dL_isSo_272 : decode cL_isSo 272 = .ok (.istore 6, 2) := by decide +kernel
theorem dL_isSo_274 : decode cL_isSo 274 = .ok (.iconst 0, 1) := by decide +kernel
theorem dL_isSo_275 : decode cL_isSo 275 = .ok (.istore 11, 2) := by decide +kernel
theorem dL_isSo_277 : decode cL_isSo 277 = .ok (.iload 11, 2) := by decide +kernel
theorem dL_isSo_279 : decode cL_isSo 279 = .ok (.bipush 7, 2) := by decide +kernel
theorem dL_isSo_281 : decode cL_isSo 281 = .ok (.if_icmp .ge 47, 3) := by decide +kernel
theorem dL_isSo_284 : decode cL_isSo 284 = .ok (.iload 6, 2) := by decide +kernel
theorem dL_isSo_286 : decode cL_isSo 286 = .ok (.ifCond .eq 33, 3) := by decide +kernel
theorem dL_isSo_289 : decode cL_isSo 289 = .ok (.aload_n 0, 1) := by decide +kernel
theorem dL_isSo_290 : decode cL_isSo 290 = .ok (.iload 10, 2) := by decide +kernel
theorem dL_isSo_292 : decode cL_isSo 292 = .ok (.iload 11, 2) := by decide +kernel
theorem dL_isSo_294 : decode cL_isSo 294 = .ok (.invokevirtual 92, 3) := by decide +kernel
theorem dL_isSo_297 : decode cL_isSo 297 = .ok (.aload_n 3, 1) := by decide +kernel
theorem dL_isSo_298 : decode cL_isSo 298 = .ok (.iload 10, 2) := by decide +kernel
theorem dL_isSo_300 : decode cL_isSo 300 = .ok (.laload, 1) := by decide +kernel
theorem dL_isSo_301 : decode cL_isSo 301 = .ok (.bipush 8, 2) := by decide +kernel
theorem dL_isSo_303 : decode cL_isSo 303 = .ok (.iload 11, 2) := by decide +kernel
theorem dL_isSo_305 : decode cL_isSo 305 = .ok (.imul, 1) := by decide +kernel
theorem dL_isSo_306 : decode cL_isSo 306 = .ok (.lshr, 1) := by decide +kernel
theorem dL_isSo_307 : decode cL_isSo 307 = .ok (.ldc2_w 19, 3) := by decide +kernel
theorem dL_isSo_310 : decode cL_isSo 310 = .ok (.land, 1) := by decide +kernel
theorem dL_isSo_311 : decode cL_isSo 311 = .ok (.l2i, 1) := by decide +kernel
theorem dL_isSo_312 : decode cL_isSo 312 = .ok (.if_icmp .ne 7, 3) := by decide +kernel
theorem dL_isSo_315 : decode cL_isSo 315 = .ok (.iconst 1, 1) := by decide +kernel
theorem dL_isSo_316 : decode cL_isSo 316 = .ok (.goto 4, 3) := by decide +kernel
theorem dL_isSo_319 : decode cL_isSo 319 = .ok (.iconst 0, 1) := by decide +kernel
theorem dL_isSo_320 : decode cL_isSo 320 = .ok (.istore 6, 2) := by decide +kernel
theorem dL_isSo_322 : decode cL_isSo 322 = .ok (.iinc 11 1, 3) := by decide +kernel
theorem dL_isSo_325 : decode cL_isSo 325 = .ok (.goto (-48), 3) := by decide +kernel
theorem dL_isSo_328 : decode cL_isSo 328 = .ok (.iinc 10 1, 3) := by decide +kernel
theorem dL_isSo_331 : decode cL_isSo 331 = .ok (.goto (-192), 3) := by decide +kernel
theorem dL_isSo_334 : decode cL_isSo 334 = .ok (.iconst 0, 1) := by decide +kernel
theorem dL_isSo_335 : decode cL_isSo 335 = .ok (.istore 10, 2) := by decide +kernel
theorem dL_isSo_337 : decode cL_isSo 337 = .ok (.iload 10, 2) := by decide +kernel
theorem dL_isSo_339 : decode cL_isSo 339 = .ok (.bipush 24, 2) := by decide +kernel
theorem dL_isSo_341 : decode cL_isSo 341 = .ok (.if_icmp .ge 79, 3) := by decide +kernel
theorem dL_isSo_344 : decode cL_isSo 344 = .ok (.iload 6, 2) := by decide +kernel
theorem dL_isSo_346 : decode cL_isSo 346 = .ok (.ifCond .eq 74, 3) := by decide +kernel
theorem dL_isSo_349 : decode cL_isSo 349 = .ok (.iload 10, 2) := by decide +kernel
theorem dL_isSo_351 : decode cL_isSo 351 = .ok (.bipush 6, 2) := by decide +kernel
theorem dL_isSo_353 : decode cL_isSo 353 = .ok (.irem, 1) := by decide +kernel
theorem dL_isSo_354 : decode cL_isSo 354 = .ok (.iconst 5, 1) := by decide +kernel
theorem dL_isSo_355 : decode cL_isSo 355 = .ok (.if_icmp .eq 52, 3) := by decide +kernel
theorem dL_isSo_358 : decode cL_isSo 358 = .ok (.aload_n 0, 1) := by decide +kernel
theorem dL_isSo_359 : decode cL_isSo 359 = .ok (.iload 10, 2) := by decide +kernel
theorem dL_isSo_361 : decode cL_isSo 361 = .ok (.bipush 6, 2) := by decide +kernel
theorem dL_isSo_363 : decode cL_isSo 363 = .ok (.idiv, 1) := by decide +kernel
theorem dL_isSo_364 : decode cL_isSo 364 = .ok (.iload 10, 2) := by decide +kernel
theorem dL_isSo_366 : decode cL_isSo 366 = .ok (.bipush 6, 2) := by decide +kernel
theorem dL_isSo_368 : decode cL_isSo 368 = .ok (.irem, 1) := by decide +kernel
theorem dL_isSo_369 : decode cL_isSo 369 = .ok (.invokevirtual 95, 3) := by decide +kernel
theorem dL_isSo_372 : decode cL_isSo 372 = .ok (.iload 10, 2) := by decide +kernel
theorem dL_isSo_374 : decode cL_isSo 374 = .ok (.bipush 6, 2) := by decide +kernel
theorem dL_isSo_376 : decode cL_isSo 376 = .ok (.irem, 1) := by decide +kernel
theorem dL_isSo_377 : decode cL_isSo 377 = .ok (.aload 4, 2) := by decide +kernel
theorem dL_isSo_379 : decode cL_isSo 379 = .ok (.bipush 6, 2) := by decide +kernel
theorem dL_isSo_381 : decode cL_isSo 381 = .ok (.iload 10, 2) := by decide +kernel
theorem dL_isSo_383 : decode cL_isSo 383 = .ok (.bipush 6, 2) := by decide +kernel
theorem dL_isSo_385 : decode cL_isSo 385 = .ok (.idiv, 1) := by decide +kernel
theorem dL_isSo_386 : decode cL_isSo 386 = .ok (.imul, 1) := by decide +kernel
theorem dL_isSo_387 : decode cL_isSo 387 = .ok (.iaload, 1) := by decide +kernel
theorem dL_isSo_388 : decode cL_isSo 388 = .ok (.if_icmp .ge 13, 3) := by decide +kernel
theorem dL_isSo_391 : decode cL_isSo 391 = .ok (.aload 4, 2) := by decide +kernel
theorem dL_isSo_393 : decode cL_isSo 393 = .ok (.iload 10, 2) := by decide +kernel
theorem dL_isSo_395 : decode cL_isSo 395 = .ok (.iconst 1, 1) := by decide +kernel
theorem dL_isSo_396 : decode cL_isSo 396 = .ok (.iadd, 1) := by decide +kernel
theorem dL_isSo_397 : decode cL_isSo 397 = .ok (.iaload, 1) := by decide +kernel
theorem dL_isSo_398 : decode cL_isSo 398 = .ok (.goto 6, 3) := by decide +kernel
theorem dL_isSo_401 : decode cL_isSo 401 = .ok (.sipush (-1009), 3) := by decide +kernel
theorem dL_isSo_404 : decode cL_isSo 404 = .ok (.if_icmp .ne 7, 3) := by decide +kernel
theorem dL_isSo_407 : decode cL_isSo 407 = .ok (.iconst 1, 1) := by decide +kernel
theorem dL_isSo_408 : decode cL_isSo 408 = .ok (.goto 4, 3) := by decide +kernel
theorem dL_isSo_411 : decode cL_isSo 411 = .ok (.iconst 0, 1) := by decide +kernel
theorem dL_isSo_412 : decode cL_isSo 412 = .ok (.istore 6, 2) := by decide +kernel
theorem dL_isSo_414 : decode cL_isSo 414 = .ok (.iinc 10 1, 3) := by decide +kernel
theorem dL_isSo_417 : decode cL_isSo 417 = .ok (.goto (-80), 3) := by decide +kernel
theorem dL_isSo_420 : decode cL_isSo 420 = .ok (.iconst 0, 1) := by decide +kernel
theorem dL_isSo_421 : decode cL_isSo 421 = .ok (.istore 10, 2) := by decide +kernel
theorem dL_isSo_423 : decode cL_isSo 423 = .ok (.iload 10, 2) := by decide +kernel
theorem dL_isSo_425 : decode cL_isSo 425 = .ok (.aload 5, 2) := by decide +kernel
theorem dL_isSo_427 : decode cL_isSo 427 = .ok (.bipush 60, 2) := by decide +kernel
theorem dL_isSo_429 : decode cL_isSo 429 = .ok (.iaload, 1) := by decide +kernel
theorem dL_isSo_430 : decode cL_isSo 430 = .ok (.if_icmp .ge 97, 3) := by decide +kernel
theorem dL_isSo_433 : decode cL_isSo 433 = .ok (.iload 6, 2) := by decide +kernel
theorem dL_isSo_435 : decode cL_isSo 435 = .ok (.ifCond .eq 92, 3) := by decide +kernel
theorem dL_isSo_438 : decode cL_isSo 438 = .ok (.aload_n 0, 1) := by decide +kernel
theorem dL_isSo_439 : decode cL_isSo 439 = .ok (.iload 10, 2) := by decide +kernel
theorem dL_isSo_441 : decode cL_isSo 441 = .ok (.invokevirtual 98, 3) := by decide +kernel
theorem dL_isSo_444 : decode cL_isSo 444 = .ok (.aload 4, 2) := by decide +kernel
theorem dL_isSo_446 : decode cL_isSo 446 = .ok (.aload 5, 2) := by decide +kernel
theorem dL_isSo_448 : decode cL_isSo 448 = .ok (.iload 10, 2) := by decide +kernel
theorem dL_isSo_450 : decode cL_isSo 450 = .ok (.invokestatic 9, 3) := by decide +kernel
theorem dL_isSo_453 : decode cL_isSo 453 = .ok (.if_icmp .ne 65, 3) := by decide +kernel
theorem dL_isSo_456 : decode cL_isSo 456 = .ok (.aload_n 0, 1) := by decide +kernel
theorem dL_isSo_457 : decode cL_isSo 457 = .ok (.iload 10, 2) := by decide +kernel
theorem dL_isSo_459 : decode cL_isSo 459 = .ok (.iconst 0, 1) := by decide +kernel
theorem dL_isSo_460 : decode cL_isSo 460 = .ok (.invokevirtual 100, 3) := by decide +kernel
theorem dL_isSo_463 : decode cL_isSo 463 = .ok (.aload 5, 2) := by decide +kernel
theorem dL_isSo_465 : decode cL_isSo 465 = .ok (.bipush 13, 2) := by decide +kernel
theorem dL_isSo_467 : decode cL_isSo 467 = .ok (.iload 10, 2) := by decide +kernel
theorem dL_isSo_469 : decode cL_isSo 469 = .ok (.imul, 1) := by decide +kernel
theorem dL_isSo_470 : decode cL_isSo 470 = .ok (.iconst 1, 1) := by decide +kernel
theorem dL_isSo_471 : decode cL_isSo 471 = .ok (.iadd, 1) := by decide +kernel
theorem dL_isSo_472 : decode cL_isSo 472 = .ok (.iaload, 1) := by decide +kernel
theorem dL_isSo_473 : decode cL_isSo 473 = .ok (.if_icmp .ne 45, 3) := by decide +kernel
theorem dL_isSo_476 : decode cL_isSo 476 = .ok (.aload_n 0, 1) := by decide +kernel
theorem dL_isSo_477 : decode cL_isSo 477 = .ok (.iload 10, 2) := by decide +kernel
theorem dL_isSo_479 : decode cL_isSo 479 = .ok (.iconst 1, 1) := by decide +kernel
theorem dL_isSo_480 : decode cL_isSo 480 = .ok (.invokevirtual 100, 3) := by decide +kernel
theorem dL_isSo_483 : decode cL_isSo 483 = .ok (.aload 5, 2) := by decide +kernel
theorem dL_isSo_485 : decode cL_isSo 485 = .ok (.bipush 13, 2) := by decide +kernel
theorem dL_isSo_487 : decode cL_isSo 487 = .ok (.iload 10, 2) := by decide +kernel
theorem dL_isSo_489 : decode cL_isSo 489 = .ok (.imul, 1) := by decide +kernel
theorem dL_isSo_490 : decode cL_isSo 490 = .ok (.iaload, 1) := by decide +kernel
theorem dL_isSo_491 : decode cL_isSo 491 = .ok (.iconst 1, 1) := by decide +kernel
theorem dL_isSo_492 : decode cL_isSo 492 = .ok (.if_icmp .ne 9, 3) := by decide +kernel
theorem dL_isSo_495 : decode cL_isSo 495 = .ok (.sipush (-1009), 3) := by decide +kernel
theorem dL_isSo_498 : decode cL_isSo 498 = .ok (.goto 13, 3) := by decide +kernel
theorem dL_isSo_501 : decode cL_isSo 501 = .ok (.aload 5, 2) := by decide +kernel
theorem dL_isSo_503 : decode cL_isSo 503 = .ok (.bipush 13, 2) := by decide +kernel
theorem dL_isSo_505 : decode cL_isSo 505 = .ok (.iload 10, 2) := by decide +kernel
theorem dL_isSo_507 : decode cL_isSo 507 = .ok (.imul, 1) := by decide +kernel
theorem dL_isSo_508 : decode cL_isSo 508 = .ok (.iconst 2, 1) := by decide +kernel
theorem dL_isSo_509 : decode cL_isSo 509 = .ok (.iadd, 1) := by decide +kernel
theorem dL_isSo_510 : decode cL_isSo 510 = .ok (.iaload, 1) := by decide +kernel
theorem dL_isSo_511 : decode cL_isSo 511 = .ok (.if_icmp .ne 7, 3) := by decide +kernel
theorem dL_isSo_514 : decode cL_isSo 514 = .ok (.iconst 1, 1) := by decide +kernel
theorem dL_isSo_515 : decode cL_isSo 515 = .ok (.goto 4, 3) := by decide +kernel
theorem dL_isSo_518 : decode cL_isSo 518 = .ok (.iconst 0, 1) := by decide +kernel
theorem dL_isSo_519 : decode cL_isSo 519 = .ok (.istore 6, 2) := by decide +kernel
theorem dL_isSo_521 : decode cL_isSo 521 = .ok (.iinc 10 1, 3) := by decide +kernel
theorem dL_isSo_524 : decode cL_isSo 524 = .ok (.goto (-101), 3) := by decide +kernel
theorem dL_isSo_527 : decode cL_isSo 527 = .ok (.iconst 1, 1) := by decide +kernel
theorem dL_isSo_528 : decode cL_isSo 528 = .ok (.istore 10, 2) := by decide +kernel
theorem dL_isSo_530 : decode cL_isSo 530 = .ok (.iload 10, 2) := by decide +kernel
theorem dL_isSo_532 : decode cL_isSo 532 = .ok (.bipush 21, 2) := by decide +kernel
theorem dL_isSo_534 : decode cL_isSo 534 = .ok (.if_icmp .ge 52, 3) := by decide +kernel
theorem dL_isSo_537 : decode cL_isSo 537 = .ok (.iload 6, 2) := by decide +kernel
theorem dL_isSo_539 : decode cL_isSo 539 = .ok (.ifCond .eq 47, 3) := by decide +kernel
theorem dL_isSo_542 : decode cL_isSo 542 = .ok (.aload_n 0, 1) := by decide +kernel
theorem dL_isSo_543 : decode cL_isSo 543 = .ok (.iload 10, 2) := by decide +kernel
theorem dL_isSo_545 : decode cL_isSo 545 = .ok (.invokevirtual 103, 3) := by decide +kernel
theorem dL_isSo_548 : decode cL_isSo 548 = .ok (.iload 10, 2) := by decide +kernel
theorem dL_isSo_550 : decode cL_isSo 550 = .ok (.aload_n 1, 1) := by decide +kernel
theorem dL_isSo_551 : decode cL_isSo 551 = .ok (.bipush 7, 2) := by decide +kernel
theorem dL_isSo_553 : decode cL_isSo 553 = .ok (.iaload, 1) := by decide +kernel
theorem dL_isSo_554 : decode cL_isSo 554 = .ok (.if_icmp .le 9, 3) := by decide +kernel
theorem dL_isSo_557 : decode cL_isSo 557 = .ok (.sipush (-1009), 3) := by decide +kernel
theorem dL_isSo_560 : decode cL_isSo 560 = .ok (.goto 10, 3) := by decide +kernel
theorem dL_isSo_563 : decode cL_isSo 563 = .ok (.aload_n 1, 1) := by decide +kernel
theorem dL_isSo_564 : decode cL_isSo 564 = .ok (.bipush 7, 2) := by decide +kernel
theorem dL_isSo_566 : decode cL_isSo 566 = .ok (.iload 10, 2) := by decide +kernel
theorem dL_isSo_568 : decode cL_isSo 568 = .ok (.iadd, 1) := by decide +kernel
theorem dL_isSo_569 : decode cL_isSo 569 = .ok (.iaload, 1) := by decide +kernel
theorem dL_isSo_570 : decode cL_isSo 570 = .ok (.if_icmp .ne 7, 3) := by decide +kernel
theorem dL_isSo_573 : decode cL_isSo 573 = .ok (.iconst 1, 1) := by decide +kernel
theorem dL_isSo_574 : decode cL_isSo 574 = .ok (.goto 4, 3) := by decide +kernel
theorem dL_isSo_577 : decode cL_isSo 577 = .ok (.iconst 0, 1) := by decide +kernel
theorem dL_isSo_578 : decode cL_isSo 578 = .ok (.istore 6, 2) := by decide +kernel
theorem dL_isSo_580 : decode cL_isSo 580 = .ok (.iinc 10 1, 3) := by decide +kernel
theorem dL_isSo_583 : decode cL_isSo 583 = .ok (.goto (-53), 3) := by decide +kernel
theorem dL_isSo_586 : decode cL_isSo 586 = .ok (.iload 6, 2) := by decide +kernel
theorem dL_isSo_588 : decode cL_isSo 588 = .ok (.ifCond .eq 40, 3) := by decide +kernel
theorem dL_isSo_591 : decode cL_isSo 591 = .ok (.aload_n 0, 1) := by decide +kernel
theorem dL_isSo_592 : decode cL_isSo 592 = .ok (.bipush 6, 2) := by decide +kernel
theorem dL_isSo_594 : decode cL_isSo 594 = .ok (.invokevirtual 86, 3) := by decide +kernel
theorem dL_isSo_597 : decode cL_isSo 597 = .ok (.iload 7, 2) := by decide +kernel
theorem dL_isSo_599 : decode cL_isSo 599 = .ok (.if_icmp .ne 29, 3) := by decide +kernel
theorem dL_isSo_602 : decode cL_isSo 602 = .ok (.aload_n 0, 1) := by decide +kernel
theorem dL_isSo_603 : decode cL_isSo 603 = .ok (.bipush 7, 2) := by decide +kernel
theorem dL_isSo_605 : decode cL_isSo 605 = .ok (.invokevirtual 86, 3) := by decide +kernel
theorem dL_isSo_608 : decode cL_isSo 608 = .ok (.iload 8, 2) := by decide +kernel
theorem dL_isSo_610 : decode cL_isSo 610 = .ok (.if_icmp .ne 18, 3) := by decide +kernel
theorem dL_isSo_613 : decode cL_isSo 613 = .ok (.aload_n 0, 1) := by decide +kernel
theorem dL_isSo_614 : decode cL_isSo 614 = .ok (.bipush 8, 2) := by decide +kernel
theorem dL_isSo_616 : decode cL_isSo 616 = .ok (.invokevirtual 86, 3) := by decide +kernel
theorem dL_isSo_619 : decode cL_isSo 619 = .ok (.iload 9, 2) := by decide +kernel
theorem dL_isSo_621 : decode cL_isSo 621 = .ok (.if_icmp .ne 7, 3) := by decide +kernel
theorem dL_isSo_624 : decode cL_isSo 624 = .ok (.iconst 1, 1) := by decide +kernel
theorem dL_isSo_625 : decode cL_isSo 625 = .ok (.goto 4, 3) := by decide +kernel
theorem dL_isSo_628 : decode cL_isSo 628 = .ok (.iconst 0, 1) := by decide +kernel
theorem dL_isSo_629 : decode cL_isSo 629 = .ok (.ireturn, 1) := by decide +kernel
theorem dL_law_0 : decode cL_law 0 = .ok (.new 39, 3) := by decide +kernel
theorem dL_law_3 : decode cL_law 3 = .ok (.dup, 1) := by decide +kernel
theorem dL_law_4 : decode cL_law 4 = .ok (.invokespecial 106, 3) := by decide +kernel
theorem dL_law_7 : decode cL_law 7 = .ok (.astore_n 1, 1) := by decide +kernel
theorem dL_law_8 : decode cL_law 8 = .ok (.bipush 28, 2) := by decide +kernel
theorem dL_law_10 : decode cL_law 10 = .ok (.newarray .int, 2) := by decide +kernel
theorem dL_law_12 : decode cL_law 12 = .ok (.astore_n 2, 1) := by decide +kernel
theorem dL_law_13 : decode cL_law 13 = .ok (.bipush 64, 2) := by decide +kernel
theorem dL_law_15 : decode cL_law 15 = .ok (.newarray .int, 2) := by decide +kernel
theorem dL_law_17 : decode cL_law 17 = .ok (.astore_n 3, 1) := by decide +kernel
theorem dL_law_18 : decode cL_law 18 = .ok (.bipush 16, 2) := by decide +kernel
theorem dL_law_20 : decode cL_law 20 = .ok (.newarray .long, 2) := by decide +kernel
theorem dL_law_22 : decode cL_law 22 = .ok (.astore 4, 2) := by decide +kernel
theorem dL_law_24 : decode cL_law 24 = .ok (.bipush 24, 2) := by decide +kernel
theorem dL_law_26 : decode cL_law 26 = .ok (.newarray .int, 2) := by decide +kernel
theorem dL_law_28 : decode cL_law 28 = .ok (.astore 5, 2) := by decide +kernel
theorem dL_law_30 : decode cL_law 30 = .ok (.bipush 61, 2) := by decide +kernel
theorem dL_law_32 : decode cL_law 32 = .ok (.newarray .int, 2) := by decide +kernel
theorem dL_law_34 : decode cL_law 34 = .ok (.astore 6, 2) := by decide +kernel
theorem dL_law_36 : decode cL_law 36 = .ok (.aload_n 2, 1) := by decide +kernel
theorem dL_law_37 : decode cL_law 37 = .ok (.iconst 0, 1) := by decide +kernel
theorem dL_law_38 : decode cL_law 38 = .ok (.bipush 6, 2) := by decide +kernel
theorem dL_law_40 : decode cL_law 40 = .ok (.aload_n 0, 1) := by decide +kernel
theorem dL_law_41 : decode cL_law 41 = .ok (.iconst 0, 1) := by decide +kernel
theorem dL_law_42 : decode cL_law 42 = .ok (.invokestatic 107, 3) := by decide +kernel
theorem dL_law_45 : decode cL_law 45 = .ok (.bipush 9, 2) := by decide +kernel
theorem dL_law_47 : decode cL_law 47 = .ok (.invokestatic 34, 3) := by decide +kernel
theorem dL_law_50 : decode cL_law 50 = .ok (.iadd, 1) := by decide +kernel
theorem dL_law_51 : decode cL_law 51 = .ok (.iastore, 1) := by decide +kernel
theorem dL_law_52 : decode cL_law 52 = .ok (.aload_n 2, 1) := by decide +kernel
theorem dL_law_53 : decode cL_law 53 = .ok (.iconst 1, 1) := by decide +kernel
theorem dL_law_54 : decode cL_law 54 = .ok (.bipush 10, 2) := by decide +kernel
theorem dL_law_56 : decode cL_law 56 = .ok (.iastore, 1) := by decide +kernel
theorem dL_law_57 : decode cL_law 57 = .ok (.aload_n 2, 1) := by decide +kernel
theorem dL_law_58 : decode cL_law 58 = .ok (.iconst 3, 1) := by decide +kernel
theorem dL_law_59 : decode cL_law 59 = .ok (.bipush 100, 2) := by decide +kernel
theorem dL_law_61 : decode cL_law 61 = .ok (.iastore, 1) := by decide +kernel
theorem dL_law_62 : decode cL_law 62 = .ok (.aload_n 1, 1) := by decide +kernel
theorem dL_law_63 : decode cL_law 63 = .ok (.aload_n 2, 1) := by decide +kernel
theorem dL_law_64 : decode cL_law 64 = .ok (.iconst 0, 1) := by decide +kernel
theorem dL_law_65 : decode cL_law 65 = .ok (.iaload, 1) := by decide +kernel
theorem dL_law_66 : decode cL_law 66 = .ok (.invokevirtual 38, 3) := by decide +kernel
theorem dL_law_69 : decode cL_law 69 = .ok (.bipush 20, 2) := by decide +kernel
theorem dL_law_71 : decode cL_law 71 = .ok (.if_icmp .ne 7, 3) := by decide +kernel
theorem dL_law_74 : decode cL_law 74 = .ok (.iconst 1, 1) := by decide +kernel
theorem dL_law_75 : decode cL_law 75 = .ok (.goto 4, 3) := by decide +kernel
theorem dL_law_78 : decode cL_law 78 = .ok (.iconst 0, 1) := by decide +kernel
theorem dL_law_79 : decode cL_law 79 = .ok (.istore 7, 2) := by decide +kernel
theorem dL_law_81 : decode cL_law 81 = .ok (.bipush 10, 2) := by decide +kernel
theorem dL_law_83 : decode cL_law 83 = .ok (.aload_n 0, 1) := by decide +kernel
theorem dL_law_84 : decode cL_law 84 = .ok (.iconst 0, 1) := by decide +kernel
theorem dL_law_85 : decode cL_law 85 = .ok (.invokestatic 107, 3) := by decide +kernel
theorem dL_law_88 : decode cL_law 88 = .ok (.iconst 4, 1) := by decide +kernel
theorem dL_law_89 : decode cL_law 89 = .ok (.ishr, 1) := by decide +kernel
theorem dL_law_90 : decode cL_law 90 = .ok (.bipush 60, 2) := by decide +kernel
theorem dL_law_92 : decode cL_law 92 = .ok (.invokestatic 34, 3) := by decide +kernel
theorem dL_law_95 : decode cL_law 95 = .ok (.iadd, 1) := by decide +kernel
theorem dL_law_96 : decode cL_law 96 = .ok (.istore 8, 2) := by decide +kernel
theorem dL_law_98 : decode cL_law 98 = .ok (.iconst 0, 1) := by decide +kernel
theorem dL_law_99 : decode cL_law 99 = .ok (.istore 9, 2) := by decide +kernel
theorem dL_law_101 : decode cL_law 101 = .ok (.iload 9, 2) := by decide +kernel
theorem dL_law_103 : decode cL_law 103 = .ok (.iload 8, 2) := by decide +kernel
theorem dL_law_105 : decode cL_law 105 = .ok (.if_icmp .ge 73, 3) := by decide +kernel
theorem dL_law_108 : decode cL_law 108 = .ok (.iload 7, 2) := by decide +kernel
theorem dL_law_110 : decode cL_law 110 = .ok (.ifCond .eq 68, 3) := by decide +kernel
theorem dL_law_113 : decode cL_law 113 = .ok (.aload_n 1, 1) := by decide +kernel
theorem dL_law_114 : decode cL_law 114 = .ok (.aload_n 2, 1) := by decide +kernel
theorem dL_law_115 : decode cL_law 115 = .ok (.aload_n 3, 1) := by decide +kernel
theorem dL_law_116 : decode cL_law 116 = .ok (.aload 4, 2) := by decide +kernel
theorem dL_law_118 : decode cL_law 118 = .ok (.aload 5, 2) := by decide +kernel
theorem dL_law_120 : decode cL_law 120 = .ok (.aload 6, 2) := by decide +kernel
theorem dL_law_122 : decode cL_law 122 = .ok (.aload_n 0, 1) := by decide +kernel
theorem dL_law_123 : decode cL_law 123 = .ok (.iconst 1, 1) := by decide +kernel
theorem dL_law_124 : decode cL_law 124 = .ok (.iload 9, 2) := by decide +kernel
theorem dL_law_126 : decode cL_law 126 = .ok (.iadd, 1) := by decide +kernel
theorem dL_law_127 : decode cL_law 127 = .ok (.invokestatic 107, 3) := by decide +kernel
theorem dL_law_130 : decode cL_law 130 = .ok (.sipush 7919, 3) := by decide +kernel
theorem dL_law_133 : decode cL_law 133 = .ok (.iload 9, 2) := by decide +kernel
theorem dL_law_135 : decode cL_law 135 = .ok (.imul, 1) := by decide +kernel
theorem dL_law_136 : decode cL_law 136 = .ok (.ixor, 1) := by decide +kernel
theorem dL_law_137 : decode cL_law 137 = .ok (.invokestatic 111, 3) := by decide +kernel
theorem dL_law_140 : decode cL_law 140 = .ok (.ifCond .eq 29, 3) := by decide +kernel
theorem dL_law_143 : decode cL_law 143 = .ok (.iload 9, 2) := by decide +kernel
theorem dL_law_145 : decode cL_law 145 = .ok (.iconst 2, 1) := by decide +kernel
theorem dL_law_146 : decode cL_law 146 = .ok (.irem, 1) := by decide +kernel
theorem dL_law_147 : decode cL_law 147 = .ok (.ifCond .gt 18, 3) := by decide +kernel
theorem dL_law_150 : decode cL_law 150 = .ok (.aload_n 1, 1) := by decide +kernel
theorem dL_law_151 : decode cL_law 151 = .ok (.aload_n 2, 1) := by decide +kernel
theorem dL_law_152 : decode cL_law 152 = .ok (.aload_n 3, 1) := by decide +kernel
theorem dL_law_153 : decode cL_law 153 = .ok (.aload 4, 2) := by decide +kernel
theorem dL_law_155 : decode cL_law 155 = .ok (.aload 5, 2) := by decide +kernel
theorem dL_law_157 : decode cL_law 157 = .ok (.aload 6, 2) := by decide +kernel
theorem dL_law_159 : decode cL_law 159 = .ok (.invokestatic 115, 3) := by decide +kernel
theorem dL_law_162 : decode cL_law 162 = .ok (.ifCond .eq 7, 3) := by decide +kernel
theorem dL_law_165 : decode cL_law 165 = .ok (.iconst 1, 1) := by decide +kernel
theorem dL_law_166 : decode cL_law 166 = .ok (.goto 4, 3) := by decide +kernel
theorem dL_law_169 : decode cL_law 169 = .ok (.iconst 0, 1) := by decide +kernel
theorem dL_law_170 : decode cL_law 170 = .ok (.istore 7, 2) := by decide +kernel
theorem dL_law_172 : decode cL_law 172 = .ok (.iinc 9 1, 3) := by decide +kernel
theorem dL_law_175 : decode cL_law 175 = .ok (.goto (-74), 3) := by decide +kernel
theorem dL_law_178 : decode cL_law 178 = .ok (.iload 7, 2) := by decide +kernel
theorem dL_law_180 : decode cL_law 180 = .ok (.ifCond .eq 63, 3) := by decide +kernel
theorem dL_law_183 : decode cL_law 183 = .ok (.aload_n 1, 1) := by decide +kernel
theorem dL_law_184 : decode cL_law 184 = .ok (.aload_n 2, 1) := by decide +kernel
theorem dL_law_185 : decode cL_law 185 = .ok (.aload_n 3, 1) := by decide +kernel
theorem dL_law_186 : decode cL_law 186 = .ok (.aload 4, 2) := by decide +kernel
theorem dL_law_188 : decode cL_law 188 = .ok (.aload 5, 2) := by decide +kernel
theorem dL_law_190 : decode cL_law 190 = .ok (.aload 6, 2) := by decide +kernel
theorem dL_law_192 : decode cL_law 192 = .ok (.invokestatic 115, 3) := by decide +kernel
theorem dL_law_195 : decode cL_law 195 = .ok (.ifCond .eq 48, 3) := by decide +kernel
theorem dL_law_198 : decode cL_law 198 = .ok (.aload_n 1, 1) := by decide +kernel
theorem dL_law_199 : decode cL_law 199 = .ok (.aload_n 2, 1) := by decide +kernel
theorem dL_law_200 : decode cL_law 200 = .ok (.iconst 0, 1) := by decide +kernel
theorem dL_law_201 : decode cL_law 201 = .ok (.iaload, 1) := by decide +kernel
theorem dL_law_202 : decode cL_law 202 = .ok (.iconst 0, 1) := by decide +kernel
theorem dL_law_203 : decode cL_law 203 = .ok (.invokevirtual 89, 3) := by decide +kernel
theorem dL_law_206 : decode cL_law 206 = .ok (.sipush (-1001), 3) := by decide +kernel
theorem dL_law_209 : decode cL_law 209 = .ok (.if_icmp .ne 34, 3) := by decide +kernel
theorem dL_law_212 : decode cL_law 212 = .ok (.aload_n 1, 1) := by decide +kernel
theorem dL_law_213 : decode cL_law 213 = .ok (.aload 6, 2) := by decide +kernel
theorem dL_law_215 : decode cL_law 215 = .ok (.bipush 60, 2) := by decide +kernel
theorem dL_law_217 : decode cL_law 217 = .ok (.iaload, 1) := by decide +kernel
theorem dL_law_218 : decode cL_law 218 = .ok (.invokevirtual 98, 3) := by decide +kernel
theorem dL_law_221 : decode cL_law 221 = .ok (.sipush (-1001), 3) := by decide +kernel
theorem dL_law_224 : decode cL_law 224 = .ok (.if_icmp .ne 19, 3) := by decide +kernel
theorem dL_law_227 : decode cL_law 227 = .ok (.aload_n 1, 1) := by decide +kernel
theorem dL_law_228 : decode cL_law 228 = .ok (.bipush 21, 2) := by decide +kernel
theorem dL_law_230 : decode cL_law 230 = .ok (.invokevirtual 103, 3) := by decide +kernel
theorem dL_law_233 : decode cL_law 233 = .ok (.sipush (-1001), 3) := by decide +kernel
theorem dL_law_236 : decode cL_law 236 = .ok (.if_icmp .ne 7, 3) := by decide +kernel
theorem dL_law_239 : decode cL_law 239 = .ok (.iconst 1, 1) := by decide +kernel
theorem dL_law_240 : decode cL_law 240 = .ok (.goto 4, 3) := by decide +kernel
theorem dL_law_243 : decode cL_law 243 = .ok (.iconst 0, 1) := by decide +kernel
theorem dL_law_244 : decode cL_law 244 = .ok (.ireturn, 1) := by decide +kernel
end
section
/-! THE LAYER: an abstract world (places instead of addresses) and one row an instruction over it -/
-- environment: class numbers, array classes (0 int[], 1 int[][], 2 State[], 3 long[]), the first address of the run's own cells, the read-only arrays (0..3 the class's constants, 4 the script), the script's length and content
abbrev EV : Type := va_G × (Nat → ClassId) × Nat × (Nat → Nat) × Nat × (Nat → Int32)
def eD (E : EV) : va_G := E.1
def eC (E : EV) : Nat → ClassId := E.2.1
def eB (E : EV) : Nat := E.2.2.1
def eT (E : EV) : Nat → Nat := E.2.2.2.1
def eN (E : EV) : Nat → Nat := fun k => match k with | 0 => 3 | 1 => 3 | 2 => 3 | 3 => 5 | _ => E.2.2.2.2.1
def eF (E : EV) : Nat → Nat → Int32 := fun k => match k with
  | 0 => fun j => [10, 0, 100].getD j 0
  | 1 => fun j => [2, 0, 1].getD j 0
  | 2 => fun j => [50, 2, 200].getD j 0
  | 3 => fun j => [0, -1, 1, -2, 2].getD j 0
  | _ => E.2.2.2.2.2
def eA (E : EV) : Nat → Prop := fun q => eB E ≤ q
def ad (E : EV) (p : Nat) : Nat := if p < 5 then eT E p else eB E + (p - 5)
def cv (E : EV) (v : Value) : Value := match v with
  | .ref p => .ref (ad E p)
  | w => w
theorem cv_int (E : EV) (x : Int32) : cv E (.int x) = .int x := rfl
theorem cv_ref (E : EV) (p : Nat) : cv E (.ref p) = .ref (ad E p) := rfl
theorem cv_null (E : EV) : cv E .null = .null := rfl
theorem ad_in {E : EV} {p : Nat} (h : 5 ≤ p) : ad E p = eB E + (p - 5) := if_neg (by omega)
theorem ad_inj {E : EV} {p q : Nat} (hp : 5 ≤ p) (hq : 5 ≤ q) (h : ad E p = ad E q) : p = q := by
  rw [ad_in hp, ad_in hq] at h
  omega
/-- a cell: an array of ints, an array of places, or an object (its class's number, its fields) -/
abbrev AC : Type := (Nat × Nat × ((Nat → Int32) ⊕ ((Nat → Option Nat) ⊕ (Nat → Int64)))) ⊕ (Nat × List Value)
abbrev cI (n : Nat) (f : Nat → Int32) : AC := .inl (0, n, .inl f)
abbrev cG (t n : Nat) (g : Nat → Option Nat) : AC := .inl (t, n, .inr (.inl g))
abbrev cL (n : Nat) (f : Nat → Int64) : AC := .inl (3, n, .inr (.inr f))
abbrev cO (ci : Nat) (fs : List Value) : AC := .inr (ci, fs)
abbrev HP : Type := Nat → Option AC
def cc (E : EV) : AC → va_E
  | .inl (t, n, .inl f) => .inl (eC E t, n, .inl f)
  | .inl (t, n, .inr (.inl g)) => .inl (eC E t, n, .inr (.inr (.inr (.inr (fun i => (g i).map (ad E))))))
  | .inl (t, n, .inr (.inr f)) => .inl (eC E t, n, .inr (.inl f))
  | .inr (ci, fs) => .inr (ci, fs.map (cv E))
def hset (h : HP) (a : Nat) (c : AC) : HP := fun q => if q = a then some c else h q
theorem hset_eq (h : HP) (a : Nat) (c : AC) : hset h a c a = some c := if_pos rfl
theorem hset_ne (h : HP) {a q : Nat} (c : AC) (e : q ≠ a) : hset h a c q = h q := if_neg e
abbrev tysE (E : EV) : List (ClassId × FieldType) := [(eC E 0, .int), (eC E 1, .array .int), (eC E 2, .object RX8), (eC E 3, .long)]
/-- the heap holds the world h, n places of it -/
def Wd (E : EV) (n : Nat) (h : HP) (H : Heap) : Prop :=
  5 ≤ n ∧ H.size = eB E + (n - 5) ∧ (∀ p c, h p = some c → 5 ≤ p ∧ p < n ∧ va_at (eD E) vwCl (ad E p, cc E c) H) ∧ ∀ p, 5 ≤ p → p < n → (h p).isSome = true
/-- the words that a method may hand to its callees; those of nests and casts go with the world -/
def tbG : List Cond := lw_tbl.filter goodWord
def nestQ : Cond → Bool
  | .fieldLinkNest .. => true
  | .methodLinkNest .. => true
  | .castable .. => true
  | .arrayOver _ => true
  | _ => false
theorem tbG_in {w : Cond} (h : w ∈ tbG) : w ∈ lw_tbl := (List.mem_filter.mp h).1
theorem nest_moved {w : Cond} (hq : nestQ w = true) {u U : State} (hW : u.WarmedH U.vm) (h : va_Nw w u) : va_Nw w U := by
  cases w <;> first | (cases hq; done) | exact va_Nw.warmF hW h | exact va_Nw.warmM hW h | exact va_Nw.warmC hW h | exact (Cond.arrayOver_setVmC (args := #[]) hW.alike _).trans h
/-- the first numbers' own cell: of its class, with three numbers (its lock and its hash may be any) -/
def cl0 (E : EV) (H : Heap) : Prop := ∃ cell : Cell, H[eT E 0]? = some cell ∧ cell.vm ≠ .unknown ∧ cell.vm.isStatics = false ∧ ({ cls := cell.cls, slots := cell.slots } : Cell) = vp_cell (eC E 0) (3, .inl (eF E 0))
/-- what is read only -/
def Ks (E : EV) (U : State) : Prop :=
  va_K (eD E) vwCl (tysE E) U ∧ (va_Z RX9 "FIRST_NUMBERS" "[I" (.ref (eT E 0)) (eA E) U U.heap ∧ va_Z RX9 "LEAST_NUMBERS" "[I" (.ref (eT E 1)) (eA E) U U.heap ∧ va_Z RX9 "MOST_NUMBERS" "[I" (.ref (eT E 2)) (eA E) U U.heap ∧ va_Z RX9 "SHIFTS" "[I" (.ref (eT E 3)) (eA E) U U.heap) ∧
  (∀ k, k < 5 → va_T .int (eT E k) (eN E k) (fun j => .int (eF E k j)) (eA E) U U.heap) ∧
  cl0 E U.heap ∧ (∀ w ∈ lw_tbl, nestQ w = true → va_Nw w U) ∧ eB E ≤ U.heap.size
theorem Ks.moved {E : EV} {u U : State} (h : Ks E u) (hW : u.WarmedH U.vm) (hz : u.heap.size ≤ U.heap.size) (hk : ∀ a : Nat, a < u.heap.size → ¬ eA E a → U.heap[a]? = u.heap[a]?) : Ks E U := by
  obtain ⟨h1, ⟨z0, z1, z2, z3⟩, h3, h4, h5, h6⟩ := h
  have hvm := hW.alike
  have ha : ¬ eA E (eT E 0) := (h3 0 (by decide)).choose_spec.2.2.2.2.2.2
  exact ⟨h1.moved hvm, ⟨(z0.moved hvm).kept hk, (z1.moved hvm).kept hk, (z2.moved hvm).kept hk, (z3.moved hvm).kept hk⟩, fun k hk' => ((h3 k hk').moved hvm).kept hk, by obtain ⟨cell, q1, q2⟩ := h4; exact ⟨cell, by rw [hk _ (Array.getElem?_eq_some_iff.mp q1).1 ha]; exact q1, q2⟩, fun w hw hq => nest_moved hq hW (h5 w hw hq), Nat.le_trans h6 hz⟩
theorem Ks.nest {E : EV} {s : State} (h : Ks E s) {w : Cond} (hw : w ∈ lw_tbl) (hq : nestQ w = true) {args : Array Value} : w.before args s = true := by
  have h1 := h.2.2.2.2.1 w hw hq
  cases w <;> first | (cases hq; done) | exact va_Nw.use rfl h1 | exact h1
/-- the locals -/
def lvr (E : EV) (nL : Nat) (ls : Array Slot) (L : List (Option Value)) : Prop :=
  ls.size = nL ∧ lv_wf ls ∧ L.length = nL ∧ ∀ (i : Nat) (v : Value), L[i]? = some (some v) → ls[i]? = some (Slot.val (cv E v)) ∧ v.category = 1
abbrev CX : Type := Program × Launch × Env × Room × State × MethodId × Array Value × List Frame × Method × Code × (State → Prop) × EV × Nat
abbrev CX.l (X : CX) : Launch := X.2.1
abbrev CX.E (X : CX) : EV := X.2.2.2.2.2.2.2.2.2.2.2.1
def AW (X : CX) (n : Nat) (h : HP) (k sl pc : Nat) (L : List (Option Value)) (st : List Value) : Prop :=
  match X with
  | (p, l, e, R, s, m, args, below, meth, c, Q, E, nL) =>
    ∀ (H : Heap) (locs : List Loc) (ls : Array Slot), Wd E n h H → va_S (eA E) s.heap H locs → H.size = s.heap.size + k → lvr E nL ls L →
      W p l e R s m args below meth c H locs k sl Q (F0 m pc ls (st.map (cv E)))
/-- what a method answers -/
def AQ (E : EV) (n : Nat) (post : Option Value → HP → Prop) : Array Value → State → Outcome → State → Prop := fun _ st oc t =>
  (∃ (v : Option Value) (h : HP), oc = .returned (v.map (cv E)) ∧ post v h ∧ Wd E n h t.heap) ∧ va_F (eA E) st t
abbrev rmA (fr lo mc ms : Nat) : Room := { frames := fr, cells := mc, slots := ms, locals := lo }
/-- what a body knows -/
def Cx (X : CX) (own : String) (bytes : ByteArray) (ret : Option FieldType) (fr lo mc ms n1 : Nat) (post : Option Value → HP → Prop) : Prop :=
  match X with
  | (p, _, _, R, s, m, args, below, meth, c, Q, E, nL) =>
    p.tables.exec = Jvm.exec ∧ c.code = bytes ∧ c.maxLocals = nL ∧ s.vm.findClass own = some m.cls ∧ (∀ w ∈ tbG, w.before args s = true) ∧ Ks E s ∧ meth.locks = false ∧ meth.sig.returnType = ret ∧ R = rmA fr lo mc ms ∧ Q = MQ below (AQ E n1 post) args s mc ms (eA E)
/-- a method's contract over the abstract world -/
def AM (l : Launch) (y : MethodName) (bytes : ByteArray) (nL : Nat) (ret : Option FieldType) (fr lo mc ms : Nat) (E : EV) (n : Nat) (h : HP) (As : List Value) (post : Option Value → HP → Prop) : Prop :=
  Met l y (.code y bytes nL ret :: tbG) (rmA fr lo mc ms) (va_Pc (As.map (cv E)) (fun U => Wd E n h U.heap ∧ Ks E U)) (AQ E (n + mc) post) mc ms (eA E)
theorem lg_sl_one : ∀ (vs : List Value), (∀ v ∈ vs, v.category = 1) → lg_sl vs = vs.map Slot.val
  | [], _ => rfl
  | v :: vs, h => by
    have h1 : v.category = 1 := h v List.mem_cons_self
    have h2 := lg_sl_one vs (fun w hw => h w (List.mem_cons_of_mem _ hw))
    cases v <;> first | (simp [lg_sl, h2]; done) | (exact absurd h1 (by decide)) | simp_all [lg_sl, Value.category]
theorem cv_cat (E : EV) (v : Value) : (cv E v).category = v.category := by cases v <;> rfl
theorem tysE_at (E : EV) {t : Nat} (h : t < 4) : ∃ ty, (tysE E)[t]? = some (eC E t, ty) := by
  match t, h with
  | 0, _ => exact ⟨_, rfl⟩
  | 1, _ => exact ⟨_, rfl⟩
  | 2, _ => exact ⟨_, rfl⟩
  | 3, _ => exact ⟨_, rfl⟩
theorem cc_set (E : EV) (ci : Nat) (fs : List Value) (k : Nat) {v : Value} : cc E (cO ci (fs.set k v)) = .inr (ci, (fs.map (cv E)).set k (cv E v)) := by
  show Sum.inr (ci, (fs.set k v).map (cv E)) = _
  rw [List.map_set]
/-- the locals as the kit's list -/
def asl (E : EV) (L : List (Option Value)) : List (Nat × Value) := (List.range L.length).filterMap (fun i => match L[i]? with
  | some (some v) => some (i, cv E v)
  | _ => none)
theorem mem_asl {E : EV} {L : List (Option Value)} {i : Nat} {v : Value} (h : L[i]? = some (some v)) : (i, cv E v) ∈ asl E L := by
  refine List.mem_filterMap.mpr ⟨i, List.mem_range.mpr (List.getElem?_eq_some_iff.mp h).1, ?_⟩
  simp only [h]
theorem of_asl {E : EV} {L : List (Option Value)} {q : Nat × Value} (h : q ∈ asl E L) : ∃ v, L[q.1]? = some (some v) ∧ q.2 = cv E v := by
  obtain ⟨i, -, hi⟩ := List.mem_filterMap.mp h
  split at hi
  · rename_i v hv
    cases hi
    exact ⟨v, hv, rfl⟩
  · cases hi
theorem lvr.has {E : EV} {nL : Nat} {ls : Array Slot} {L : List (Option Value)} (h : lvr E nL ls L) : lv_has ls nL (asl E L) := by
  refine ⟨h.1, h.2.1, fun q hq => ?_⟩
  obtain ⟨v, h1, h2⟩ := of_asl hq
  rw [h2]
  exact (h.2.2.2 _ _ h1).1
theorem lvr.put {E : EV} {nL i : Nat} {ls ls' : Array Slot} {L : List (Option Value)} {v : Value} (h : lvr E nL ls L) (hi : i < L.length) (hc : v.category = 1) (h' : lv_has ls' nL ((i, cv E v) :: (asl E L).filter (fun q => !(q.1 == i) && !(q.1 + 1 == i && q.2.category == 2)))) : lvr E nL ls' (L.set i (some v)) := by
  refine ⟨h'.1, h'.2.1, by rw [List.length_set]; exact h.2.2.1, fun j w hj => ?_⟩
  by_cases e : j = i
  · subst e
    rw [List.getElem?_set_self hi] at hj
    cases hj
    exact ⟨h'.2.2 _ List.mem_cons_self, hc⟩
  · rw [List.getElem?_set_ne (Ne.symm e)] at hj
    obtain ⟨h1, h2⟩ := h.2.2.2 j w hj
    refine ⟨h'.2.2 (j, cv E w) (List.mem_cons_of_mem _ (List.mem_filter.mpr ⟨mem_asl hj, ?_⟩)), h2⟩
    have h3 : (cv E w).category = 1 := (cv_cat E w).trans h2
    simp [e, h3]
theorem W.sz {p : Program} {l : Launch} {e : Env} {R : Room} {s : State} {m : MethodId} {args : Array Value} {below : List Frame} {meth : Method} {c : Code} {H : Heap} {locs : List Loc} {cells slots : Nat} {Q : State → Prop} {g : JFrame} (kk : H.size ≤ s.heap.size + cells → W p l e R s m args below meth c H locs cells slots Q g) : W p l e R s m args below meth c H locs cells slots Q g := by
  intro T hT X
  have h := X.heapSize
  rw [hT] at h
  exact kk h T hT X
theorem cc_at_lt {E : EV} {p : Nat} {c : AC} {H : Heap} (h : va_at (eD E) vwCl (ad E p, cc E c) H) : ad E p < H.size := va_at.lt h
/-- the world as a list; behind a write to one of its cells the world again -/
theorem Wd.all {E : EV} {n : Nat} {h : HP} {H : Heap} (hW : Wd E n h H) :
    ∃ ws : va_W, va_P (eD E) vwCl ws H ∧ va_D (eA E) ws ∧ (∀ (p : Nat) (c : AC), h p = some c → ∃ j : Nat, ws[j]? = some (ad E p, cc E c)) ∧
      ∀ (a : Nat) (c : AC) (q0 : Nat), h a = some c → ws[q0]? = some (ad E a, cc E c) → ∀ (c' : AC) (H1 : Heap), va_P (eD E) vwCl (ws.set q0 (ad E a, cc E c')) H1 → H1.size ≤ H.size → Wd E n (hset h a c') H1 ∧ H1.size = H.size := by
  obtain ⟨h5, hz, hc, hf⟩ := hW
  let F : Nat → Option (Nat × va_E) := fun p => (h p).map (fun c => (ad E p, cc E c))
  have hmem : ∀ q, q ∈ (List.range n).filterMap F ↔ ∃ p c, h p = some c ∧ q = (ad E p, cc E c) := by
    intro q
    rw [List.mem_filterMap]
    constructor
    · rintro ⟨p, -, hp⟩
      obtain ⟨c, h1, h2⟩ := Option.map_eq_some_iff.mp hp
      exact ⟨p, c, h1, h2.symm⟩
    · rintro ⟨p, c, h1, rfl⟩
      exact ⟨p, List.mem_range.mpr (hc p c h1).2.1, Option.map_eq_some_iff.mpr ⟨c, h1, rfl⟩⟩
  have hnd : ((List.range n).filterMap F).Pairwise (fun x y => x.1 ≠ y.1) := by
    rw [List.pairwise_filterMap]
    refine List.Pairwise.imp_of_mem ?_ List.nodup_range
    intro i j hi hj hij x hx y hy
    obtain ⟨ci, h1, h2⟩ := Option.map_eq_some_iff.mp hx
    obtain ⟨cj, h3, h4⟩ := Option.map_eq_some_iff.mp hy
    rw [← h2, ← h4]
    intro e
    exact hij (ad_inj (hc i ci h1).1 (hc j cj h3).1 e)
  have hD : va_D (eA E) ((List.range n).filterMap F) := by
    refine ⟨fun i j x y hi hj hxy => ?_, fun k q hk => ?_⟩
    · rw [List.pairwise_iff_getElem] at hnd
      obtain ⟨li, ei⟩ := List.getElem?_eq_some_iff.mp hi
      obtain ⟨lj, ej⟩ := List.getElem?_eq_some_iff.mp hj
      rcases Nat.lt_trichotomy i j with w | w | w
      · exact absurd hxy (by rw [← ei, ← ej]; exact hnd i j li lj w)
      · exact w
      · exact absurd hxy.symm (by rw [← ei, ← ej]; exact hnd j i lj li w)
    · obtain ⟨p, c, h1, rfl⟩ := (hmem q).mp (List.mem_of_getElem? hk)
      show eB E ≤ ad E p
      rw [ad_in (hc p c h1).1]
      omega
  refine ⟨(List.range n).filterMap F, fun k q hk => ?_, hD, fun p c hp => List.getElem?_of_mem ((hmem _).mpr ⟨p, c, hp, rfl⟩), fun a c q0 hh hq0 c' H1 hP1 hz1 => ?_⟩
  · obtain ⟨p, c, h1, rfl⟩ := (hmem q).mp (List.mem_of_getElem? hk)
    exact (hc p c h1).2.2
  · have hl := (List.getElem?_eq_some_iff.mp hq0).1
    have hc1 : ∀ p c, hset h a c' p = some c → 5 ≤ p ∧ p < n ∧ va_at (eD E) vwCl (ad E p, cc E c) H1 := by
      intro p c1 hp
      by_cases e : p = a
      · subst e
        rw [hset_eq] at hp
        cases hp
        exact ⟨(hc _ _ hh).1, (hc _ _ hh).2.1, hP1 q0 _ (List.getElem?_set_self hl)⟩
      · rw [hset_ne h c' e] at hp
        obtain ⟨g1, g2, g3⟩ := hc p c1 hp
        obtain ⟨j, hj⟩ := List.getElem?_of_mem ((hmem _).mpr ⟨p, c1, hp, rfl⟩)
        refine ⟨g1, g2, hP1 j _ ?_⟩
        rw [List.getElem?_set_ne ?_]
        · exact hj
        · intro e2
          subst e2
          rw [hq0] at hj
          have := congrArg (fun z : Option (Nat × va_E) => z.map Prod.fst) hj
          simp only [Option.map_some, Option.some.injEq] at this
          exact e (ad_inj g1 (hc _ _ hh).1 this.symm)
    have hf1 : ∀ p, 5 ≤ p → p < n → (hset h a c' p).isSome = true := by
      intro p g1 g2
      by_cases e : p = a
      · rw [e, hset_eq]; rfl
      · rw [hset_ne h c' e]; exact hf p g1 g2
    have hsz : H1.size = H.size := by
      have hn : 5 < n := by have := hc _ _ hh; omega
      have h1 := hf1 (n - 1) (by omega) (by omega)
      obtain ⟨c1, hc2⟩ := Option.isSome_iff_exists.mp h1
      have h2 := cc_at_lt (hc1 _ _ hc2).2.2
      rw [ad_in (by omega)] at h2
      omega
    exact ⟨⟨h5, by rw [hsz]; exact hz, hc1, hf1⟩, hsz⟩
theorem Wd.list {E : EV} {n : Nat} {h : HP} {H : Heap} (hW : Wd E n h H) {a : Nat} {c : AC} (hh : h a = some c) :
    ∃ (ws : va_W) (q0 : Nat), va_P (eD E) vwCl ws H ∧ va_D (eA E) ws ∧ ws[q0]? = some (ad E a, cc E c) ∧
      ∀ (c' : AC) (H1 : Heap), va_P (eD E) vwCl (ws.set q0 (ad E a, cc E c')) H1 → H1.size ≤ H.size → Wd E n (hset h a c') H1 ∧ H1.size = H.size := by
  obtain ⟨ws, hP, hD, hm, hb⟩ := hW.all
  obtain ⟨q0, hq⟩ := hm a c hh
  exact ⟨ws, q0, hP, hD, hq, hb a c q0 hh hq⟩
/-- a cell more -/
theorem Wd.grow {E : EV} {n : Nat} {h : HP} {H H1 : Heap} {ws : va_W} {q : Nat} {c : AC} (hW : Wd E n h H) (hm : ∀ (p : Nat) (c : AC), h p = some c → ∃ j : Nat, ws[j]? = some (ad E p, cc E c))
    (hP : va_P (eD E) vwCl (ws ++ [(q, cc E c)]) H1) (hD : va_D (eA E) (ws ++ [(q, cc E c)])) (hz1 : H1.size ≤ H.size + 1) : q = ad E n ∧ Wd E (n + 1) (hset h n c) H1 ∧ H1.size = H.size + 1 := by
  obtain ⟨h5, hz, hc, hf⟩ := hW
  have hlast : (ws ++ [(q, cc E c)])[ws.length]? = some (q, cc E c) := by rw [List.getElem?_append_right (Nat.le_refl _), Nat.sub_self]; rfl
  have hold : ∀ (j : Nat) (x : Nat × va_E), ws[j]? = some x → (ws ++ [(q, cc E c)])[j]? = some x := fun j x hj => by
    rw [List.getElem?_append_left (List.getElem?_eq_some_iff.mp hj).1]; exact hj
  have hq1 : q < H1.size := (hP _ _ hlast).lt
  have hq2 : eB E ≤ q := hD.2 _ _ hlast
  have hq3 : ¬ q < eB E + (n - 5) := by
    intro hlt
    have hp := hf (q - eB E + 5) (by omega) (by omega)
    obtain ⟨c1, hc1⟩ := Option.isSome_iff_exists.mp hp
    obtain ⟨j, hj⟩ := hm _ _ hc1
    have e : (ad E (q - eB E + 5)) = q := by rw [ad_in (by omega)]; omega
    have := hD.1 j ws.length _ _ (hold _ _ hj) hlast e
    have := (List.getElem?_eq_some_iff.mp hj).1
    omega
  have hqe : q = ad E n := by rw [ad_in h5]; omega
  refine ⟨hqe, ⟨by omega, by rw [ad_in h5] at hqe; omega, fun p c1 hp => ?_, fun p g1 g2 => ?_⟩, by rw [ad_in h5] at hqe; omega⟩
  · by_cases e : p = n
    · subst e
      rw [hset_eq] at hp
      cases hp
      refine ⟨h5, by omega, ?_⟩
      rw [← hqe]
      exact hP _ _ hlast
    · rw [hset_ne h c e] at hp
      obtain ⟨g1, g2, g3⟩ := hc p c1 hp
      obtain ⟨j, hj⟩ := hm _ _ hp
      exact ⟨g1, by omega, hP _ _ (hold _ _ hj)⟩
  · by_cases e : p = n
    · rw [e, hset_eq]; rfl
    · rw [hset_ne h c e]; exact hf p g1 (by omega)
end
section
theorem aw_iconst {X : CX} {own : String} {bytes : ByteArray} {ret : Option FieldType} {fr lo mc ms n1 : Nat} {post : Option Value → HP → Prop} {n k sl pc : Nat} {h : HP} {L : List (Option Value)} {st : List Value} (hX : Cx X own bytes ret fr lo mc ms n1 post) {z : Int} (v : Int32) (hdg : decode bytes pc = .ok (.iconst z, 1)) (hv : Int32.ofInt z = v) (kk : AW X n h k sl (pc + 1) L (.int v :: st)) : AW X n h k sl pc L st := by
  obtain ⟨p, l, e, R, s, m, args, below, meth, c, Q, E, nL⟩ := X
  obtain ⟨hx, hb, hml, hown, hts, hK, hlk, hr, hR, hQ⟩ := hX
  intro H locs ls hW hS hz hl
  exact lv_iconst hx hb hdg hv (kk H locs ls hW hS hz hl)

theorem aw_bipush {X : CX} {own : String} {bytes : ByteArray} {ret : Option FieldType} {fr lo mc ms n1 : Nat} {post : Option Value → HP → Prop} {n k sl pc : Nat} {h : HP} {L : List (Option Value)} {st : List Value} (hX : Cx X own bytes ret fr lo mc ms n1 post) {z : Int} (v : Int32) (hdg : decode bytes pc = .ok (.bipush z, 2)) (hv : (Int8.ofInt z).toInt32 = v) (kk : AW X n h k sl (pc + 2) L (.int v :: st)) : AW X n h k sl pc L st := by
  obtain ⟨p, l, e, R, s, m, args, below, meth, c, Q, E, nL⟩ := X
  obtain ⟨hx, hb, hml, hown, hts, hK, hlk, hr, hR, hQ⟩ := hX
  intro H locs ls hW hS hz hl
  exact lv_bipush hx hb hdg hv (kk H locs ls hW hS hz hl)

theorem aw_sipush {X : CX} {own : String} {bytes : ByteArray} {ret : Option FieldType} {fr lo mc ms n1 : Nat} {post : Option Value → HP → Prop} {n k sl pc : Nat} {h : HP} {L : List (Option Value)} {st : List Value} (hX : Cx X own bytes ret fr lo mc ms n1 post) {z : Int} (v : Int32) (hdg : decode bytes pc = .ok (.sipush z, 3)) (hv : (Int16.ofInt z).toInt32 = v) (kk : AW X n h k sl (pc + 3) L (.int v :: st)) : AW X n h k sl pc L st := by
  obtain ⟨p, l, e, R, s, m, args, below, meth, c, Q, E, nL⟩ := X
  obtain ⟨hx, hb, hml, hown, hts, hK, hlk, hr, hR, hQ⟩ := hX
  intro H locs ls hW hS hz hl
  exact lv_sipush hx hb hdg hv (kk H locs ls hW hS hz hl)

theorem aw_iload_n {X : CX} {own : String} {bytes : ByteArray} {ret : Option FieldType} {fr lo mc ms n1 : Nat} {post : Option Value → HP → Prop} {n k sl pc : Nat} {h : HP} {L : List (Option Value)} {st : List Value} (hX : Cx X own bytes ret fr lo mc ms n1 post) {i : Fin 4} {x : Int32} (hdg : decode bytes pc = .ok (.iload_n i, 1)) (hv : L[(i : Nat)]? = some (some (.int x))) (kk : AW X n h k sl (pc + 1) L (.int x :: st)) : AW X n h k sl pc L st := by
  obtain ⟨p, l, e, R, s, m, args, below, meth, c, Q, E, nL⟩ := X
  obtain ⟨hx, hb, hml, hown, hts, hK, hlk, hr, hR, hQ⟩ := hX
  intro H locs ls hW hS hz hl
  exact lv_iload_n hx hb hdg rfl (hl.2.2.2 _ _ hv).1 (kk H locs ls hW hS hz hl)

theorem aw_iload {X : CX} {own : String} {bytes : ByteArray} {ret : Option FieldType} {fr lo mc ms n1 : Nat} {post : Option Value → HP → Prop} {n k sl pc : Nat} {h : HP} {L : List (Option Value)} {st : List Value} (hX : Cx X own bytes ret fr lo mc ms n1 post) {i : Nat} {x : Int32} (hdg : decode bytes pc = .ok (.iload i, 2)) (hv : L[i]? = some (some (.int x))) (kk : AW X n h k sl (pc + 2) L (.int x :: st)) : AW X n h k sl pc L st := by
  obtain ⟨p, l, e, R, s, m, args, below, meth, c, Q, E, nL⟩ := X
  obtain ⟨hx, hb, hml, hown, hts, hK, hlk, hr, hR, hQ⟩ := hX
  intro H locs ls hW hS hz hl
  exact lv_iload hx hb hdg (hl.2.2.2 _ _ hv).1 (kk H locs ls hW hS hz hl)

theorem aw_aload_n {X : CX} {own : String} {bytes : ByteArray} {ret : Option FieldType} {fr lo mc ms n1 : Nat} {post : Option Value → HP → Prop} {n k sl pc : Nat} {h : HP} {L : List (Option Value)} {st : List Value} (hX : Cx X own bytes ret fr lo mc ms n1 post) {i : Fin 4} {x : Nat} (hdg : decode bytes pc = .ok (.aload_n i, 1)) (hv : L[(i : Nat)]? = some (some (.ref x))) (kk : AW X n h k sl (pc + 1) L (.ref x :: st)) : AW X n h k sl pc L st := by
  obtain ⟨p, l, e, R, s, m, args, below, meth, c, Q, E, nL⟩ := X
  obtain ⟨hx, hb, hml, hown, hts, hK, hlk, hr, hR, hQ⟩ := hX
  intro H locs ls hW hS hz hl
  exact lv_aload_n hx hb hdg rfl (hl.2.2.2 _ _ hv).1 (kk H locs ls hW hS hz hl)

theorem aw_aload {X : CX} {own : String} {bytes : ByteArray} {ret : Option FieldType} {fr lo mc ms n1 : Nat} {post : Option Value → HP → Prop} {n k sl pc : Nat} {h : HP} {L : List (Option Value)} {st : List Value} (hX : Cx X own bytes ret fr lo mc ms n1 post) {i : Nat} {x : Nat} (hdg : decode bytes pc = .ok (.aload i, 2)) (hv : L[i]? = some (some (.ref x))) (kk : AW X n h k sl (pc + 2) L (.ref x :: st)) : AW X n h k sl pc L st := by
  obtain ⟨p, l, e, R, s, m, args, below, meth, c, Q, E, nL⟩ := X
  obtain ⟨hx, hb, hml, hown, hts, hK, hlk, hr, hR, hQ⟩ := hX
  intro H locs ls hW hS hz hl
  exact lv_aload hx hb hdg (hl.2.2.2 _ _ hv).1 (kk H locs ls hW hS hz hl)

theorem aw_istore_n {X : CX} {own : String} {bytes : ByteArray} {ret : Option FieldType} {fr lo mc ms n1 : Nat} {post : Option Value → HP → Prop} {n k sl pc : Nat} {h : HP} {L : List (Option Value)} {st : List Value} (hX : Cx X own bytes ret fr lo mc ms n1 post) {i : Fin 4} {x : Int32} (hdg : decode bytes pc = .ok (.istore_n i, 1)) (hi : (i : Nat) < L.length) (kk : AW X n h k sl (pc + 1) (L.set (i : Nat) (some (.int x))) st) : AW X n h k sl pc L (.int x :: st) := by
  obtain ⟨p, l, e, R, s, m, args, below, meth, c, Q, E, nL⟩ := X
  obtain ⟨hx, hb, hml, hown, hts, hK, hlk, hr, hR, hQ⟩ := hX
  intro H locs ls hW hS hz hl
  exact lv_istore_n hx hb hdg rfl hl.has (by rw [← hl.2.2.1]; exact hi) rfl (fun ls' h' => kk H locs ls' hW hS hz (lvr.put hl hi rfl h'))

theorem aw_istore {X : CX} {own : String} {bytes : ByteArray} {ret : Option FieldType} {fr lo mc ms n1 : Nat} {post : Option Value → HP → Prop} {n k sl pc : Nat} {h : HP} {L : List (Option Value)} {st : List Value} (hX : Cx X own bytes ret fr lo mc ms n1 post) {i : Nat} {x : Int32} (hdg : decode bytes pc = .ok (.istore i, 2)) (hi : i < L.length) (kk : AW X n h k sl (pc + 2) (L.set i (some (.int x))) st) : AW X n h k sl pc L (.int x :: st) := by
  obtain ⟨p, l, e, R, s, m, args, below, meth, c, Q, E, nL⟩ := X
  obtain ⟨hx, hb, hml, hown, hts, hK, hlk, hr, hR, hQ⟩ := hX
  intro H locs ls hW hS hz hl
  exact lv_istore hx hb hdg hl.has (by rw [← hl.2.2.1]; exact hi) rfl (fun ls' h' => kk H locs ls' hW hS hz (lvr.put hl hi rfl h'))

theorem aw_astore_n {X : CX} {own : String} {bytes : ByteArray} {ret : Option FieldType} {fr lo mc ms n1 : Nat} {post : Option Value → HP → Prop} {n k sl pc : Nat} {h : HP} {L : List (Option Value)} {st : List Value} (hX : Cx X own bytes ret fr lo mc ms n1 post) {i : Fin 4} {x : Nat} (hdg : decode bytes pc = .ok (.astore_n i, 1)) (hi : (i : Nat) < L.length) (kk : AW X n h k sl (pc + 1) (L.set (i : Nat) (some (.ref x))) st) : AW X n h k sl pc L (.ref x :: st) := by
  obtain ⟨p, l, e, R, s, m, args, below, meth, c, Q, E, nL⟩ := X
  obtain ⟨hx, hb, hml, hown, hts, hK, hlk, hr, hR, hQ⟩ := hX
  intro H locs ls hW hS hz hl
  exact lv_astore_n hx hb hdg rfl hl.has (by rw [← hl.2.2.1]; exact hi) rfl (fun ls' h' => kk H locs ls' hW hS hz (lvr.put hl hi rfl h'))

theorem aw_astore {X : CX} {own : String} {bytes : ByteArray} {ret : Option FieldType} {fr lo mc ms n1 : Nat} {post : Option Value → HP → Prop} {n k sl pc : Nat} {h : HP} {L : List (Option Value)} {st : List Value} (hX : Cx X own bytes ret fr lo mc ms n1 post) {i : Nat} {x : Nat} (hdg : decode bytes pc = .ok (.astore i, 2)) (hi : i < L.length) (kk : AW X n h k sl (pc + 2) (L.set i (some (.ref x))) st) : AW X n h k sl pc L (.ref x :: st) := by
  obtain ⟨p, l, e, R, s, m, args, below, meth, c, Q, E, nL⟩ := X
  obtain ⟨hx, hb, hml, hown, hts, hK, hlk, hr, hR, hQ⟩ := hX
  intro H locs ls hW hS hz hl
  exact lv_astore hx hb hdg hl.has (by rw [← hl.2.2.1]; exact hi) rfl (fun ls' h' => kk H locs ls' hW hS hz (lvr.put hl hi rfl h'))

theorem aw_iinc {X : CX} {own : String} {bytes : ByteArray} {ret : Option FieldType} {fr lo mc ms n1 : Nat} {post : Option Value → HP → Prop} {n k sl pc : Nat} {h : HP} {L : List (Option Value)} {st : List Value} (hX : Cx X own bytes ret fr lo mc ms n1 post) {i : Nat} {z : Int} {x : Int32} (v : Int32) (hdg : decode bytes pc = .ok (.iinc i z, 3)) (hv : L[i]? = some (some (.int x))) (hz2 : x + Int32.ofInt z = v) (kk : AW X n h k sl (pc + 3) (L.set i (some (.int v))) st) : AW X n h k sl pc L st := by
  obtain ⟨p, l, e, R, s, m, args, below, meth, c, Q, E, nL⟩ := X
  obtain ⟨hx, hb, hml, hown, hts, hK, hlk, hr, hR, hQ⟩ := hX
  intro H locs ls hW hS hz hl
  have hi : i < L.length := (List.getElem?_eq_some_iff.mp hv).1
  obtain ⟨q, hq⟩ := List.getElem?_of_mem (mem_asl (E := E) hv)
  exact lv_iinc hx hb hdg hl.has hq hz2 (by rw [← hl.2.2.1]; exact hi) rfl (fun ls' h' => kk H locs ls' hW hS hz (lvr.put hl hi rfl h'))

theorem aw_iadd {X : CX} {own : String} {bytes : ByteArray} {ret : Option FieldType} {fr lo mc ms n1 : Nat} {post : Option Value → HP → Prop} {n k sl pc : Nat} {h : HP} {L : List (Option Value)} {st : List Value} (hX : Cx X own bytes ret fr lo mc ms n1 post) {x y : Int32} (hdg : decode bytes pc = .ok (.iadd, 1)) (kk : AW X n h k sl (pc + 1) L (.int (x + y) :: st)) : AW X n h k sl pc L (.int y :: .int x :: st) := by
  obtain ⟨p, l, e, R, s, m, args, below, meth, c, Q, E, nL⟩ := X
  obtain ⟨hx, hb, hml, hown, hts, hK, hlk, hr, hR, hQ⟩ := hX
  intro H locs ls hW hS hz hl
  exact lv_iadd hx hb hdg (kk H locs ls hW hS hz hl)

theorem aw_isub {X : CX} {own : String} {bytes : ByteArray} {ret : Option FieldType} {fr lo mc ms n1 : Nat} {post : Option Value → HP → Prop} {n k sl pc : Nat} {h : HP} {L : List (Option Value)} {st : List Value} (hX : Cx X own bytes ret fr lo mc ms n1 post) {x y : Int32} (hdg : decode bytes pc = .ok (.isub, 1)) (kk : AW X n h k sl (pc + 1) L (.int (x - y) :: st)) : AW X n h k sl pc L (.int y :: .int x :: st) := by
  obtain ⟨p, l, e, R, s, m, args, below, meth, c, Q, E, nL⟩ := X
  obtain ⟨hx, hb, hml, hown, hts, hK, hlk, hr, hR, hQ⟩ := hX
  intro H locs ls hW hS hz hl
  exact lv_isub hx hb hdg (kk H locs ls hW hS hz hl)

theorem aw_imul {X : CX} {own : String} {bytes : ByteArray} {ret : Option FieldType} {fr lo mc ms n1 : Nat} {post : Option Value → HP → Prop} {n k sl pc : Nat} {h : HP} {L : List (Option Value)} {st : List Value} (hX : Cx X own bytes ret fr lo mc ms n1 post) {x y : Int32} (hdg : decode bytes pc = .ok (.imul, 1)) (kk : AW X n h k sl (pc + 1) L (.int (x * y) :: st)) : AW X n h k sl pc L (.int y :: .int x :: st) := by
  obtain ⟨p, l, e, R, s, m, args, below, meth, c, Q, E, nL⟩ := X
  obtain ⟨hx, hb, hml, hown, hts, hK, hlk, hr, hR, hQ⟩ := hX
  intro H locs ls hW hS hz hl
  exact lv_imul hx hb hdg (kk H locs ls hW hS hz hl)

theorem aw_iand {X : CX} {own : String} {bytes : ByteArray} {ret : Option FieldType} {fr lo mc ms n1 : Nat} {post : Option Value → HP → Prop} {n k sl pc : Nat} {h : HP} {L : List (Option Value)} {st : List Value} (hX : Cx X own bytes ret fr lo mc ms n1 post) {x y : Int32} (hdg : decode bytes pc = .ok (.iand, 1)) (kk : AW X n h k sl (pc + 1) L (.int (x &&& y) :: st)) : AW X n h k sl pc L (.int y :: .int x :: st) := by
  obtain ⟨p, l, e, R, s, m, args, below, meth, c, Q, E, nL⟩ := X
  obtain ⟨hx, hb, hml, hown, hts, hK, hlk, hr, hR, hQ⟩ := hX
  intro H locs ls hW hS hz hl
  exact lv_iand hx hb hdg (kk H locs ls hW hS hz hl)

theorem aw_ior {X : CX} {own : String} {bytes : ByteArray} {ret : Option FieldType} {fr lo mc ms n1 : Nat} {post : Option Value → HP → Prop} {n k sl pc : Nat} {h : HP} {L : List (Option Value)} {st : List Value} (hX : Cx X own bytes ret fr lo mc ms n1 post) {x y : Int32} (hdg : decode bytes pc = .ok (.ior, 1)) (kk : AW X n h k sl (pc + 1) L (.int (x ||| y) :: st)) : AW X n h k sl pc L (.int y :: .int x :: st) := by
  obtain ⟨p, l, e, R, s, m, args, below, meth, c, Q, E, nL⟩ := X
  obtain ⟨hx, hb, hml, hown, hts, hK, hlk, hr, hR, hQ⟩ := hX
  intro H locs ls hW hS hz hl
  exact lv_ior hx hb hdg (kk H locs ls hW hS hz hl)

theorem aw_ixor {X : CX} {own : String} {bytes : ByteArray} {ret : Option FieldType} {fr lo mc ms n1 : Nat} {post : Option Value → HP → Prop} {n k sl pc : Nat} {h : HP} {L : List (Option Value)} {st : List Value} (hX : Cx X own bytes ret fr lo mc ms n1 post) {x y : Int32} (hdg : decode bytes pc = .ok (.ixor, 1)) (kk : AW X n h k sl (pc + 1) L (.int (x ^^^ y) :: st)) : AW X n h k sl pc L (.int y :: .int x :: st) := by
  obtain ⟨p, l, e, R, s, m, args, below, meth, c, Q, E, nL⟩ := X
  obtain ⟨hx, hb, hml, hown, hts, hK, hlk, hr, hR, hQ⟩ := hX
  intro H locs ls hW hS hz hl
  exact lv_ixor hx hb hdg (kk H locs ls hW hS hz hl)

theorem aw_ishl {X : CX} {own : String} {bytes : ByteArray} {ret : Option FieldType} {fr lo mc ms n1 : Nat} {post : Option Value → HP → Prop} {n k sl pc : Nat} {h : HP} {L : List (Option Value)} {st : List Value} (hX : Cx X own bytes ret fr lo mc ms n1 post) {x y : Int32} (hdg : decode bytes pc = .ok (.ishl, 1)) (kk : AW X n h k sl (pc + 1) L (.int (x <<< (y &&& 31)) :: st)) : AW X n h k sl pc L (.int y :: .int x :: st) := by
  obtain ⟨p, l, e, R, s, m, args, below, meth, c, Q, E, nL⟩ := X
  obtain ⟨hx, hb, hml, hown, hts, hK, hlk, hr, hR, hQ⟩ := hX
  intro H locs ls hW hS hz hl
  exact lv_ishl hx hb hdg (kk H locs ls hW hS hz hl)

theorem aw_ishr {X : CX} {own : String} {bytes : ByteArray} {ret : Option FieldType} {fr lo mc ms n1 : Nat} {post : Option Value → HP → Prop} {n k sl pc : Nat} {h : HP} {L : List (Option Value)} {st : List Value} (hX : Cx X own bytes ret fr lo mc ms n1 post) {x y : Int32} (hdg : decode bytes pc = .ok (.ishr, 1)) (kk : AW X n h k sl (pc + 1) L (.int (x >>> (y &&& 31)) :: st)) : AW X n h k sl pc L (.int y :: .int x :: st) := by
  obtain ⟨p, l, e, R, s, m, args, below, meth, c, Q, E, nL⟩ := X
  obtain ⟨hx, hb, hml, hown, hts, hK, hlk, hr, hR, hQ⟩ := hX
  intro H locs ls hW hS hz hl
  exact lv_ishr hx hb hdg (kk H locs ls hW hS hz hl)

theorem aw_idiv {X : CX} {own : String} {bytes : ByteArray} {ret : Option FieldType} {fr lo mc ms n1 : Nat} {post : Option Value → HP → Prop} {n k sl pc : Nat} {h : HP} {L : List (Option Value)} {st : List Value} (hX : Cx X own bytes ret fr lo mc ms n1 post) {x y : Int32} (hdg : decode bytes pc = .ok (.idiv, 1)) (hne : ¬ y = 0) (kk : AW X n h k sl (pc + 1) L (.int (x / y) :: st)) : AW X n h k sl pc L (.int y :: .int x :: st) := by
  obtain ⟨p, l, e, R, s, m, args, below, meth, c, Q, E, nL⟩ := X
  obtain ⟨hx, hb, hml, hown, hts, hK, hlk, hr, hR, hQ⟩ := hX
  intro H locs ls hW hS hz hl
  exact lv_idiv hx hb hdg hne (kk H locs ls hW hS hz hl)

theorem aw_irem {X : CX} {own : String} {bytes : ByteArray} {ret : Option FieldType} {fr lo mc ms n1 : Nat} {post : Option Value → HP → Prop} {n k sl pc : Nat} {h : HP} {L : List (Option Value)} {st : List Value} (hX : Cx X own bytes ret fr lo mc ms n1 post) {x y : Int32} (hdg : decode bytes pc = .ok (.irem, 1)) (hne : ¬ y = 0) (kk : AW X n h k sl (pc + 1) L (.int (x - x / y * y) :: st)) : AW X n h k sl pc L (.int y :: .int x :: st) := by
  obtain ⟨p, l, e, R, s, m, args, below, meth, c, Q, E, nL⟩ := X
  obtain ⟨hx, hb, hml, hown, hts, hK, hlk, hr, hR, hQ⟩ := hX
  intro H locs ls hW hS hz hl
  exact lv_irem hx hb hdg hne (kk H locs ls hW hS hz hl)

theorem aw_iushr {X : CX} {own : String} {bytes : ByteArray} {ret : Option FieldType} {fr lo mc ms n1 : Nat} {post : Option Value → HP → Prop} {n k sl pc : Nat} {h : HP} {L : List (Option Value)} {st : List Value} (hX : Cx X own bytes ret fr lo mc ms n1 post) {x y : Int32} (hdg : decode bytes pc = .ok (.iushr, 1)) (kk : AW X n h k sl (pc + 1) L (.int ((x.toUInt32 >>> (y.toUInt32 &&& Int32.toUInt32 31)).toInt32) :: st)) : AW X n h k sl pc L (.int y :: .int x :: st) := by
  obtain ⟨p, l, e, R, s, m, args, below, meth, c, Q, E, nL⟩ := X
  obtain ⟨hx, hb, hml, hown, hts, hK, hlk, hr, hR, hQ⟩ := hX
  intro H locs ls hW hS hz hl
  exact lv_iushr hx hb hdg rfl (kk H locs ls hW hS hz hl)

theorem aw_ineg {X : CX} {own : String} {bytes : ByteArray} {ret : Option FieldType} {fr lo mc ms n1 : Nat} {post : Option Value → HP → Prop} {n k sl pc : Nat} {h : HP} {L : List (Option Value)} {st : List Value} (hX : Cx X own bytes ret fr lo mc ms n1 post) {x : Int32} (hdg : decode bytes pc = .ok (.ineg, 1)) (kk : AW X n h k sl (pc + 1) L (.int (-x) :: st)) : AW X n h k sl pc L (.int x :: st) := by
  obtain ⟨p, l, e, R, s, m, args, below, meth, c, Q, E, nL⟩ := X
  obtain ⟨hx, hb, hml, hown, hts, hK, hlk, hr, hR, hQ⟩ := hX
  intro H locs ls hW hS hz hl
  exact lv_ineg hx hb hdg (kk H locs ls hW hS hz hl)

theorem aw_lconst {X : CX} {own : String} {bytes : ByteArray} {ret : Option FieldType} {fr lo mc ms n1 : Nat} {post : Option Value → HP → Prop} {n k sl pc : Nat} {h : HP} {L : List (Option Value)} {st : List Value} (hX : Cx X own bytes ret fr lo mc ms n1 post) {z : Fin 2} (v : Int64) (hdg : decode bytes pc = .ok (.lconst z, 1)) (hv : Int64.ofNat (z : Nat) = v) (kk : AW X n h k sl (pc + 1) L (.long v :: st)) : AW X n h k sl pc L st := by
  obtain ⟨p, l, e, R, s, m, args, below, meth, c, Q, E, nL⟩ := X
  obtain ⟨hx, hb, hml, hown, hts, hK, hlk, hr, hR, hQ⟩ := hX
  intro H locs ls hW hS hz hl
  exact lv_lconst hx hb hdg hv (kk H locs ls hW hS hz hl)

theorem aw_ladd {X : CX} {own : String} {bytes : ByteArray} {ret : Option FieldType} {fr lo mc ms n1 : Nat} {post : Option Value → HP → Prop} {n k sl pc : Nat} {h : HP} {L : List (Option Value)} {st : List Value} (hX : Cx X own bytes ret fr lo mc ms n1 post) {x y : Int64} (hdg : decode bytes pc = .ok (.ladd, 1)) (kk : AW X n h k sl (pc + 1) L (.long (x + y) :: st)) : AW X n h k sl pc L (.long y :: .long x :: st) := by
  obtain ⟨p, l, e, R, s, m, args, below, meth, c, Q, E, nL⟩ := X
  obtain ⟨hx, hb, hml, hown, hts, hK, hlk, hr, hR, hQ⟩ := hX
  intro H locs ls hW hS hz hl
  exact lv_ladd hx hb hdg (kk H locs ls hW hS hz hl)

theorem aw_land {X : CX} {own : String} {bytes : ByteArray} {ret : Option FieldType} {fr lo mc ms n1 : Nat} {post : Option Value → HP → Prop} {n k sl pc : Nat} {h : HP} {L : List (Option Value)} {st : List Value} (hX : Cx X own bytes ret fr lo mc ms n1 post) {x y : Int64} (hdg : decode bytes pc = .ok (.land, 1)) (kk : AW X n h k sl (pc + 1) L (.long (x &&& y) :: st)) : AW X n h k sl pc L (.long y :: .long x :: st) := by
  obtain ⟨p, l, e, R, s, m, args, below, meth, c, Q, E, nL⟩ := X
  obtain ⟨hx, hb, hml, hown, hts, hK, hlk, hr, hR, hQ⟩ := hX
  intro H locs ls hW hS hz hl
  exact lv_land hx hb hdg (kk H locs ls hW hS hz hl)

theorem aw_lxor {X : CX} {own : String} {bytes : ByteArray} {ret : Option FieldType} {fr lo mc ms n1 : Nat} {post : Option Value → HP → Prop} {n k sl pc : Nat} {h : HP} {L : List (Option Value)} {st : List Value} (hX : Cx X own bytes ret fr lo mc ms n1 post) {x y : Int64} (hdg : decode bytes pc = .ok (.lxor, 1)) (kk : AW X n h k sl (pc + 1) L (.long (x ^^^ y) :: st)) : AW X n h k sl pc L (.long y :: .long x :: st) := by
  obtain ⟨p, l, e, R, s, m, args, below, meth, c, Q, E, nL⟩ := X
  obtain ⟨hx, hb, hml, hown, hts, hK, hlk, hr, hR, hQ⟩ := hX
  intro H locs ls hW hS hz hl
  exact lv_lxor hx hb hdg (kk H locs ls hW hS hz hl)

theorem aw_lshl {X : CX} {own : String} {bytes : ByteArray} {ret : Option FieldType} {fr lo mc ms n1 : Nat} {post : Option Value → HP → Prop} {n k sl pc : Nat} {h : HP} {L : List (Option Value)} {st : List Value} (hX : Cx X own bytes ret fr lo mc ms n1 post) {x : Int64} {y : Int32} (hdg : decode bytes pc = .ok (.lshl, 1)) (kk : AW X n h k sl (pc + 1) L (.long (x <<< (y.toInt64 &&& 63)) :: st)) : AW X n h k sl pc L (.int y :: .long x :: st) := by
  obtain ⟨p, l, e, R, s, m, args, below, meth, c, Q, E, nL⟩ := X
  obtain ⟨hx, hb, hml, hown, hts, hK, hlk, hr, hR, hQ⟩ := hX
  intro H locs ls hW hS hz hl
  exact lv_lshl hx hb hdg rfl (kk H locs ls hW hS hz hl)

theorem aw_lshr {X : CX} {own : String} {bytes : ByteArray} {ret : Option FieldType} {fr lo mc ms n1 : Nat} {post : Option Value → HP → Prop} {n k sl pc : Nat} {h : HP} {L : List (Option Value)} {st : List Value} (hX : Cx X own bytes ret fr lo mc ms n1 post) {x : Int64} {y : Int32} (hdg : decode bytes pc = .ok (.lshr, 1)) (kk : AW X n h k sl (pc + 1) L (.long (x >>> (y.toInt64 &&& 63)) :: st)) : AW X n h k sl pc L (.int y :: .long x :: st) := by
  obtain ⟨p, l, e, R, s, m, args, below, meth, c, Q, E, nL⟩ := X
  obtain ⟨hx, hb, hml, hown, hts, hK, hlk, hr, hR, hQ⟩ := hX
  intro H locs ls hW hS hz hl
  exact lv_lshr hx hb hdg rfl (kk H locs ls hW hS hz hl)

theorem aw_i2l {X : CX} {own : String} {bytes : ByteArray} {ret : Option FieldType} {fr lo mc ms n1 : Nat} {post : Option Value → HP → Prop} {n k sl pc : Nat} {h : HP} {L : List (Option Value)} {st : List Value} (hX : Cx X own bytes ret fr lo mc ms n1 post) {x : Int32} (hdg : decode bytes pc = .ok (.i2l, 1)) (kk : AW X n h k sl (pc + 1) L (.long x.toInt64 :: st)) : AW X n h k sl pc L (.int x :: st) := by
  obtain ⟨p, l, e, R, s, m, args, below, meth, c, Q, E, nL⟩ := X
  obtain ⟨hx, hb, hml, hown, hts, hK, hlk, hr, hR, hQ⟩ := hX
  intro H locs ls hW hS hz hl
  exact lv_i2l hx hb hdg rfl (kk H locs ls hW hS hz hl)

theorem aw_l2i {X : CX} {own : String} {bytes : ByteArray} {ret : Option FieldType} {fr lo mc ms n1 : Nat} {post : Option Value → HP → Prop} {n k sl pc : Nat} {h : HP} {L : List (Option Value)} {st : List Value} (hX : Cx X own bytes ret fr lo mc ms n1 post) {x : Int64} (hdg : decode bytes pc = .ok (.l2i, 1)) (kk : AW X n h k sl (pc + 1) L (.int x.toInt32 :: st)) : AW X n h k sl pc L (.long x :: st) := by
  obtain ⟨p, l, e, R, s, m, args, below, meth, c, Q, E, nL⟩ := X
  obtain ⟨hx, hb, hml, hown, hts, hK, hlk, hr, hR, hQ⟩ := hX
  intro H locs ls hW hS hz hl
  exact lv_l2i hx hb hdg rfl (kk H locs ls hW hS hz hl)

theorem aw_lcmp {X : CX} {own : String} {bytes : ByteArray} {ret : Option FieldType} {fr lo mc ms n1 : Nat} {post : Option Value → HP → Prop} {n k sl pc : Nat} {h : HP} {L : List (Option Value)} {st : List Value} (hX : Cx X own bytes ret fr lo mc ms n1 post) {x y : Int64} (hdg : decode bytes pc = .ok (.lcmp, 1)) (kk : AW X n h k sl (pc + 1) L (.int (lg_cmp x y) :: st)) : AW X n h k sl pc L (.long y :: .long x :: st) := by
  obtain ⟨p, l, e, R, s, m, args, below, meth, c, Q, E, nL⟩ := X
  obtain ⟨hx, hb, hml, hown, hts, hK, hlk, hr, hR, hQ⟩ := hX
  intro H locs ls hW hS hz hl
  exact W.lcmp hx hb hdg (kk H locs ls hW hS hz hl)

theorem aw_ldc2 {X : CX} {own : String} {bytes : ByteArray} {ret : Option FieldType} {fr lo mc ms n1 : Nat} {post : Option Value → HP → Prop} {n k sl pc : Nat} {h : HP} {L : List (Option Value)} {st : List Value} (hX : Cx X own bytes ret fr lo mc ms n1 post) {ix : Nat} {v : Int64} (hc : Cond.constantLong own ix v ∈ tbG) (hdg : decode bytes pc = .ok (.ldc2_w ix, 3)) (kk : AW X n h k sl (pc + 3) L (.long v :: st)) : AW X n h k sl pc L st := by
  obtain ⟨p, l, e, R, s, m, args, below, meth, c, Q, E, nL⟩ := X
  obtain ⟨hx, hb, hml, hown, hts, hK, hlk, hr, hR, hQ⟩ := hX
  intro H locs ls hW hS hz hl
  exact lv_ldc2 hx hb hown (hts _ hc) hdg (kk H locs ls hW hS hz hl)

theorem aw_dup {X : CX} {own : String} {bytes : ByteArray} {ret : Option FieldType} {fr lo mc ms n1 : Nat} {post : Option Value → HP → Prop} {n k sl pc : Nat} {h : HP} {L : List (Option Value)} {st : List Value} (hX : Cx X own bytes ret fr lo mc ms n1 post) {v : Value} (hdg : decode bytes pc = .ok (.dup, 1)) (hc : v.category = 1) (kk : AW X n h k sl (pc + 1) L (v :: v :: st)) : AW X n h k sl pc L (v :: st) := by
  obtain ⟨p, l, e, R, s, m, args, below, meth, c, Q, E, nL⟩ := X
  obtain ⟨hx, hb, hml, hown, hts, hK, hlk, hr, hR, hQ⟩ := hX
  intro H locs ls hW hS hz hl
  exact lv_dup hx hb hdg ((cv_cat E v).trans hc) (kk H locs ls hW hS hz hl)

theorem aw_dup2 {X : CX} {own : String} {bytes : ByteArray} {ret : Option FieldType} {fr lo mc ms n1 : Nat} {post : Option Value → HP → Prop} {n k sl pc : Nat} {h : HP} {L : List (Option Value)} {st : List Value} (hX : Cx X own bytes ret fr lo mc ms n1 post) {v w : Value} (hdg : decode bytes pc = .ok (.dup2, 1)) (hc : v.category = 1) (hd : w.category = 1) (kk : AW X n h k sl (pc + 1) L (v :: w :: v :: w :: st)) : AW X n h k sl pc L (v :: w :: st) := by
  obtain ⟨p, l, e, R, s, m, args, below, meth, c, Q, E, nL⟩ := X
  obtain ⟨hx, hb, hml, hown, hts, hK, hlk, hr, hR, hQ⟩ := hX
  intro H locs ls hW hS hz hl
  exact lv_dup2_11 hx hb hdg ((cv_cat E v).trans hc) ((cv_cat E w).trans hd) (kk H locs ls hW hS hz hl)

theorem aw_if_eq {X : CX} {own : String} {bytes : ByteArray} {ret : Option FieldType} {fr lo mc ms n1 : Nat} {post : Option Value → HP → Prop} {n k sl pc : Nat} {h : HP} {L : List (Option Value)} {st : List Value} (hX : Cx X own bytes ret fr lo mc ms n1 post) {x : Int32} {off : Int} (tgt : Nat) (hdg : decode bytes pc = .ok (.ifCond .eq off, 3)) (ht : (pc : Int) + off = (tgt : Int)) (kt : x = 0 → AW X n h k sl tgt L st) (kf : ¬ x = 0 → AW X n h k sl (pc + 3) L st)  : AW X n h k sl pc L (.int x :: st) := by
  obtain ⟨p, l, e, R, s, m, args, below, meth, c, Q, E, nL⟩ := X
  obtain ⟨hx, hb, hml, hown, hts, hK, hlk, hr, hR, hQ⟩ := hX
  intro H locs ls hW hS hz hl
  exact lv_if_eq hx hb hdg ht (fun q => kt q H locs ls hW hS hz hl) (fun q => kf q H locs ls hW hS hz hl)

theorem aw_if_ne {X : CX} {own : String} {bytes : ByteArray} {ret : Option FieldType} {fr lo mc ms n1 : Nat} {post : Option Value → HP → Prop} {n k sl pc : Nat} {h : HP} {L : List (Option Value)} {st : List Value} (hX : Cx X own bytes ret fr lo mc ms n1 post) {x : Int32} {off : Int} (tgt : Nat) (hdg : decode bytes pc = .ok (.ifCond .ne off, 3)) (ht : (pc : Int) + off = (tgt : Int)) (kt : ¬ x = 0 → AW X n h k sl tgt L st) (kf : x = 0 → AW X n h k sl (pc + 3) L st)  : AW X n h k sl pc L (.int x :: st) := by
  obtain ⟨p, l, e, R, s, m, args, below, meth, c, Q, E, nL⟩ := X
  obtain ⟨hx, hb, hml, hown, hts, hK, hlk, hr, hR, hQ⟩ := hX
  intro H locs ls hW hS hz hl
  exact lv_if_ne hx hb hdg ht (fun q => kt q H locs ls hW hS hz hl) (fun q => kf q H locs ls hW hS hz hl)

theorem aw_if_lt {X : CX} {own : String} {bytes : ByteArray} {ret : Option FieldType} {fr lo mc ms n1 : Nat} {post : Option Value → HP → Prop} {n k sl pc : Nat} {h : HP} {L : List (Option Value)} {st : List Value} (hX : Cx X own bytes ret fr lo mc ms n1 post) {x : Int32} {off : Int} (tgt : Nat) (hdg : decode bytes pc = .ok (.ifCond .lt off, 3)) (ht : (pc : Int) + off = (tgt : Int)) (kt : x < 0 → AW X n h k sl tgt L st) (kf : ¬ x < 0 → AW X n h k sl (pc + 3) L st)  : AW X n h k sl pc L (.int x :: st) := by
  obtain ⟨p, l, e, R, s, m, args, below, meth, c, Q, E, nL⟩ := X
  obtain ⟨hx, hb, hml, hown, hts, hK, hlk, hr, hR, hQ⟩ := hX
  intro H locs ls hW hS hz hl
  exact lv_if_lt hx hb hdg ht (fun q => kt q H locs ls hW hS hz hl) (fun q => kf q H locs ls hW hS hz hl)

theorem aw_if_ge {X : CX} {own : String} {bytes : ByteArray} {ret : Option FieldType} {fr lo mc ms n1 : Nat} {post : Option Value → HP → Prop} {n k sl pc : Nat} {h : HP} {L : List (Option Value)} {st : List Value} (hX : Cx X own bytes ret fr lo mc ms n1 post) {x : Int32} {off : Int} (tgt : Nat) (hdg : decode bytes pc = .ok (.ifCond .ge off, 3)) (ht : (pc : Int) + off = (tgt : Int)) (kt : 0 ≤ x → AW X n h k sl tgt L st) (kf : ¬ 0 ≤ x → AW X n h k sl (pc + 3) L st)  : AW X n h k sl pc L (.int x :: st) := by
  obtain ⟨p, l, e, R, s, m, args, below, meth, c, Q, E, nL⟩ := X
  obtain ⟨hx, hb, hml, hown, hts, hK, hlk, hr, hR, hQ⟩ := hX
  intro H locs ls hW hS hz hl
  exact lv_if_ge hx hb hdg ht (fun q => kt q H locs ls hW hS hz hl) (fun q => kf q H locs ls hW hS hz hl)

theorem aw_if_gt {X : CX} {own : String} {bytes : ByteArray} {ret : Option FieldType} {fr lo mc ms n1 : Nat} {post : Option Value → HP → Prop} {n k sl pc : Nat} {h : HP} {L : List (Option Value)} {st : List Value} (hX : Cx X own bytes ret fr lo mc ms n1 post) {x : Int32} {off : Int} (tgt : Nat) (hdg : decode bytes pc = .ok (.ifCond .gt off, 3)) (ht : (pc : Int) + off = (tgt : Int)) (kt : 0 < x → AW X n h k sl tgt L st) (kf : ¬ 0 < x → AW X n h k sl (pc + 3) L st)  : AW X n h k sl pc L (.int x :: st) := by
  obtain ⟨p, l, e, R, s, m, args, below, meth, c, Q, E, nL⟩ := X
  obtain ⟨hx, hb, hml, hown, hts, hK, hlk, hr, hR, hQ⟩ := hX
  intro H locs ls hW hS hz hl
  exact lv_if_gt hx hb hdg ht (fun q => kt q H locs ls hW hS hz hl) (fun q => kf q H locs ls hW hS hz hl)

theorem aw_if_le {X : CX} {own : String} {bytes : ByteArray} {ret : Option FieldType} {fr lo mc ms n1 : Nat} {post : Option Value → HP → Prop} {n k sl pc : Nat} {h : HP} {L : List (Option Value)} {st : List Value} (hX : Cx X own bytes ret fr lo mc ms n1 post) {x : Int32} {off : Int} (tgt : Nat) (hdg : decode bytes pc = .ok (.ifCond .le off, 3)) (ht : (pc : Int) + off = (tgt : Int)) (kt : x ≤ 0 → AW X n h k sl tgt L st) (kf : ¬ x ≤ 0 → AW X n h k sl (pc + 3) L st)  : AW X n h k sl pc L (.int x :: st) := by
  obtain ⟨p, l, e, R, s, m, args, below, meth, c, Q, E, nL⟩ := X
  obtain ⟨hx, hb, hml, hown, hts, hK, hlk, hr, hR, hQ⟩ := hX
  intro H locs ls hW hS hz hl
  exact lv_if_le hx hb hdg ht (fun q => kt q H locs ls hW hS hz hl) (fun q => kf q H locs ls hW hS hz hl)

theorem aw_icmp_eq {X : CX} {own : String} {bytes : ByteArray} {ret : Option FieldType} {fr lo mc ms n1 : Nat} {post : Option Value → HP → Prop} {n k sl pc : Nat} {h : HP} {L : List (Option Value)} {st : List Value} (hX : Cx X own bytes ret fr lo mc ms n1 post) {x y : Int32} {off : Int} (tgt : Nat) (hdg : decode bytes pc = .ok (.if_icmp .eq off, 3)) (ht : (pc : Int) + off = (tgt : Int)) (kt : x = y → AW X n h k sl tgt L st) (kf : ¬ x = y → AW X n h k sl (pc + 3) L st)  : AW X n h k sl pc L (.int y :: .int x :: st) := by
  obtain ⟨p, l, e, R, s, m, args, below, meth, c, Q, E, nL⟩ := X
  obtain ⟨hx, hb, hml, hown, hts, hK, hlk, hr, hR, hQ⟩ := hX
  intro H locs ls hW hS hz hl
  exact lv_icmp_eq hx hb hdg ht (fun q => kt q H locs ls hW hS hz hl) (fun q => kf q H locs ls hW hS hz hl)

theorem aw_icmp_ne {X : CX} {own : String} {bytes : ByteArray} {ret : Option FieldType} {fr lo mc ms n1 : Nat} {post : Option Value → HP → Prop} {n k sl pc : Nat} {h : HP} {L : List (Option Value)} {st : List Value} (hX : Cx X own bytes ret fr lo mc ms n1 post) {x y : Int32} {off : Int} (tgt : Nat) (hdg : decode bytes pc = .ok (.if_icmp .ne off, 3)) (ht : (pc : Int) + off = (tgt : Int)) (kt : ¬ x = y → AW X n h k sl tgt L st) (kf : x = y → AW X n h k sl (pc + 3) L st)  : AW X n h k sl pc L (.int y :: .int x :: st) := by
  obtain ⟨p, l, e, R, s, m, args, below, meth, c, Q, E, nL⟩ := X
  obtain ⟨hx, hb, hml, hown, hts, hK, hlk, hr, hR, hQ⟩ := hX
  intro H locs ls hW hS hz hl
  exact lv_icmp_ne hx hb hdg ht (fun q => kt q H locs ls hW hS hz hl) (fun q => kf q H locs ls hW hS hz hl)

theorem aw_icmp_lt {X : CX} {own : String} {bytes : ByteArray} {ret : Option FieldType} {fr lo mc ms n1 : Nat} {post : Option Value → HP → Prop} {n k sl pc : Nat} {h : HP} {L : List (Option Value)} {st : List Value} (hX : Cx X own bytes ret fr lo mc ms n1 post) {x y : Int32} {off : Int} (tgt : Nat) (hdg : decode bytes pc = .ok (.if_icmp .lt off, 3)) (ht : (pc : Int) + off = (tgt : Int)) (kt : x < y → AW X n h k sl tgt L st) (kf : ¬ x < y → AW X n h k sl (pc + 3) L st)  : AW X n h k sl pc L (.int y :: .int x :: st) := by
  obtain ⟨p, l, e, R, s, m, args, below, meth, c, Q, E, nL⟩ := X
  obtain ⟨hx, hb, hml, hown, hts, hK, hlk, hr, hR, hQ⟩ := hX
  intro H locs ls hW hS hz hl
  exact lv_icmp_lt hx hb hdg ht (fun q => kt q H locs ls hW hS hz hl) (fun q => kf q H locs ls hW hS hz hl)

theorem aw_icmp_ge {X : CX} {own : String} {bytes : ByteArray} {ret : Option FieldType} {fr lo mc ms n1 : Nat} {post : Option Value → HP → Prop} {n k sl pc : Nat} {h : HP} {L : List (Option Value)} {st : List Value} (hX : Cx X own bytes ret fr lo mc ms n1 post) {x y : Int32} {off : Int} (tgt : Nat) (hdg : decode bytes pc = .ok (.if_icmp .ge off, 3)) (ht : (pc : Int) + off = (tgt : Int)) (kt : y ≤ x → AW X n h k sl tgt L st) (kf : ¬ y ≤ x → AW X n h k sl (pc + 3) L st)  : AW X n h k sl pc L (.int y :: .int x :: st) := by
  obtain ⟨p, l, e, R, s, m, args, below, meth, c, Q, E, nL⟩ := X
  obtain ⟨hx, hb, hml, hown, hts, hK, hlk, hr, hR, hQ⟩ := hX
  intro H locs ls hW hS hz hl
  exact lv_icmp_ge hx hb hdg ht (fun q => kt q H locs ls hW hS hz hl) (fun q => kf q H locs ls hW hS hz hl)

theorem aw_icmp_gt {X : CX} {own : String} {bytes : ByteArray} {ret : Option FieldType} {fr lo mc ms n1 : Nat} {post : Option Value → HP → Prop} {n k sl pc : Nat} {h : HP} {L : List (Option Value)} {st : List Value} (hX : Cx X own bytes ret fr lo mc ms n1 post) {x y : Int32} {off : Int} (tgt : Nat) (hdg : decode bytes pc = .ok (.if_icmp .gt off, 3)) (ht : (pc : Int) + off = (tgt : Int)) (kt : y < x → AW X n h k sl tgt L st) (kf : ¬ y < x → AW X n h k sl (pc + 3) L st)  : AW X n h k sl pc L (.int y :: .int x :: st) := by
  obtain ⟨p, l, e, R, s, m, args, below, meth, c, Q, E, nL⟩ := X
  obtain ⟨hx, hb, hml, hown, hts, hK, hlk, hr, hR, hQ⟩ := hX
  intro H locs ls hW hS hz hl
  exact lv_icmp_gt hx hb hdg ht (fun q => kt q H locs ls hW hS hz hl) (fun q => kf q H locs ls hW hS hz hl)

theorem aw_icmp_le {X : CX} {own : String} {bytes : ByteArray} {ret : Option FieldType} {fr lo mc ms n1 : Nat} {post : Option Value → HP → Prop} {n k sl pc : Nat} {h : HP} {L : List (Option Value)} {st : List Value} (hX : Cx X own bytes ret fr lo mc ms n1 post) {x y : Int32} {off : Int} (tgt : Nat) (hdg : decode bytes pc = .ok (.if_icmp .le off, 3)) (ht : (pc : Int) + off = (tgt : Int)) (kt : x ≤ y → AW X n h k sl tgt L st) (kf : ¬ x ≤ y → AW X n h k sl (pc + 3) L st)  : AW X n h k sl pc L (.int y :: .int x :: st) := by
  obtain ⟨p, l, e, R, s, m, args, below, meth, c, Q, E, nL⟩ := X
  obtain ⟨hx, hb, hml, hown, hts, hK, hlk, hr, hR, hQ⟩ := hX
  intro H locs ls hW hS hz hl
  exact lv_icmp_le hx hb hdg ht (fun q => kt q H locs ls hW hS hz hl) (fun q => kf q H locs ls hW hS hz hl)

theorem aw_goto {X : CX} {own : String} {bytes : ByteArray} {ret : Option FieldType} {fr lo mc ms n1 : Nat} {post : Option Value → HP → Prop} {n k sl pc : Nat} {h : HP} {L : List (Option Value)} {st : List Value} (hX : Cx X own bytes ret fr lo mc ms n1 post) {off : Int} (tgt : Nat) (hdg : decode bytes pc = .ok (.goto off, 3)) (ht : (pc : Int) + off = (tgt : Int)) (kk : AW X n h k sl tgt L st) : AW X n h k sl pc L st := by
  obtain ⟨p, l, e, R, s, m, args, below, meth, c, Q, E, nL⟩ := X
  obtain ⟨hx, hb, hml, hown, hts, hK, hlk, hr, hR, hQ⟩ := hX
  intro H locs ls hW hS hz hl
  exact lv_goto hx hb hdg ht (kk H locs ls hW hS hz hl)

theorem aw_ifnull {X : CX} {own : String} {bytes : ByteArray} {ret : Option FieldType} {fr lo mc ms n1 : Nat} {post : Option Value → HP → Prop} {n k sl pc : Nat} {h : HP} {L : List (Option Value)} {st : List Value} (hX : Cx X own bytes ret fr lo mc ms n1 post) {off : Int} {x : Nat} (hdg : decode bytes pc = .ok (.ifnull off, 3)) (kk : AW X n h k sl (pc + 3) L st) : AW X n h k sl pc L (.ref x :: st) := by
  obtain ⟨p, l, e, R, s, m, args, below, meth, c, Q, E, nL⟩ := X
  obtain ⟨hx, hb, hml, hown, hts, hK, hlk, hr, hR, hQ⟩ := hX
  intro H locs ls hW hS hz hl
  exact lv_ifnull hx hb hdg (kk H locs ls hW hS hz hl)

theorem aw_tabIn {X : CX} {own : String} {bytes : ByteArray} {ret : Option FieldType} {fr lo mc ms n1 : Nat} {post : Option Value → HP → Prop} {n k sl pc : Nat} {h : HP} {L : List (Option Value)} {st : List Value} (hX : Cx X own bytes ret fr lo mc ms n1 post) {dflt lw hi : Int} {offs : Array Int} {len : Nat} {x : Int32} {off : Int} (tgt : Nat) (hdg : decode bytes pc = .ok (.tableswitch dflt lw hi offs, len)) (h1 : ¬ x.toInt < lw) (h2 : ¬ hi < x.toInt) (ho : offs[(x.toInt - lw).toNat]? = some off) (ht : (pc : Int) + off = (tgt : Int)) (kk : AW X n h k sl tgt L st) : AW X n h k sl pc L (.int x :: st) := by
  obtain ⟨p, l, e, R, s, m, args, below, meth, c, Q, E, nL⟩ := X
  obtain ⟨hx, hb, hml, hown, hts, hK, hlk, hr, hR, hQ⟩ := hX
  intro H locs ls hW hS hz hl
  exact lv_tableIn hx hb hdg h1 h2 ho ht (kk H locs ls hW hS hz hl)

theorem aw_tabOut {X : CX} {own : String} {bytes : ByteArray} {ret : Option FieldType} {fr lo mc ms n1 : Nat} {post : Option Value → HP → Prop} {n k sl pc : Nat} {h : HP} {L : List (Option Value)} {st : List Value} (hX : Cx X own bytes ret fr lo mc ms n1 post) {dflt lw hi : Int} {offs : Array Int} {len : Nat} {x : Int32} (tgt : Nat) (hdg : decode bytes pc = .ok (.tableswitch dflt lw hi offs, len)) (h1 : x.toInt < lw ∨ hi < x.toInt) (ht : (pc : Int) + dflt = (tgt : Int)) (kk : AW X n h k sl tgt L st) : AW X n h k sl pc L (.int x :: st) := by
  obtain ⟨p, l, e, R, s, m, args, below, meth, c, Q, E, nL⟩ := X
  obtain ⟨hx, hb, hml, hown, hts, hK, hlk, hr, hR, hQ⟩ := hX
  intro H locs ls hW hS hz hl
  exact lv_tableOut hx hb hdg h1 ht (kk H locs ls hW hS hz hl)

theorem aw_ldc {X : CX} {own : String} {bytes : ByteArray} {ret : Option FieldType} {fr lo mc ms n1 : Nat} {post : Option Value → HP → Prop} {n k sl pc : Nat} {h : HP} {L : List (Option Value)} {st : List Value} (hX : Cx X own bytes ret fr lo mc ms n1 post) {ix : Nat} {v : Int32} (hc : Cond.constant own ix v ∈ tbG) (hdg : decode bytes pc = .ok (.ldc ix, 2)) (kk : AW X n h k sl (pc + 2) L (.int v :: st)) : AW X n h k sl pc L st := by
  obtain ⟨p, l, e, R, s, m, args, below, meth, c, Q, E, nL⟩ := X
  obtain ⟨hx, hb, hml, hown, hts, hK, hlk, hr, hR, hQ⟩ := hX
  intro H locs ls hW hS hz hl
  exact lv_ldc hx hb hown (hts _ hc) hdg (kk H locs ls hW hS hz hl)

theorem aw_ldcw {X : CX} {own : String} {bytes : ByteArray} {ret : Option FieldType} {fr lo mc ms n1 : Nat} {post : Option Value → HP → Prop} {n k sl pc : Nat} {h : HP} {L : List (Option Value)} {st : List Value} (hX : Cx X own bytes ret fr lo mc ms n1 post) {ix : Nat} {v : Int32} (hc : Cond.constant own ix v ∈ tbG) (hdg : decode bytes pc = .ok (.ldc_w ix, 3)) (kk : AW X n h k sl (pc + 3) L (.int v :: st)) : AW X n h k sl pc L st := by
  obtain ⟨p, l, e, R, s, m, args, below, meth, c, Q, E, nL⟩ := X
  obtain ⟨hx, hb, hml, hown, hts, hK, hlk, hr, hR, hQ⟩ := hX
  intro H locs ls hW hS hz hl
  exact lv_ldcw hx hb hown (hts _ hc) hdg (kk H locs ls hW hS hz hl)

theorem aw_alen {X : CX} {own : String} {bytes : ByteArray} {ret : Option FieldType} {fr lo mc ms n1 : Nat} {post : Option Value → HP → Prop} {n k sl pc : Nat} {h : HP} {L : List (Option Value)} {st : List Value} (hX : Cx X own bytes ret fr lo mc ms n1 post) {a t N : Nat} {z : (Nat → Int32) ⊕ ((Nat → Option Nat) ⊕ (Nat → Int64))} (v : Int32) (hh : h a = some (.inl (t, N, z))) (ht : t < 4) (hv : Int32.ofNat N = v) (hdg : decode bytes pc = .ok (.arraylength, 1)) (kk : AW X n h k sl (pc + 1) L (.int v :: st)) : AW X n h k sl pc L (.ref a :: st) := by
  obtain ⟨p, l, e, R, s, m, args, below, meth, c, Q, E, nL⟩ := X
  obtain ⟨hx, hb, hml, hown, hts, hK, hlk, hr, hR, hQ⟩ := hX
  intro H locs ls hW hS hz hl
  obtain ⟨ws, q0, hP, hD, hq, -⟩ := Wd.list hW hh
  obtain ⟨ty, hty⟩ := tysE_at E ht
  rcases z with f | g | g
  · exact va_alen hx hb hK.1 hP q0 t hq hty hv hdg (kk H locs ls hW hS hz hl)
  · exact va_alen hx hb hK.1 hP q0 t hq hty hv hdg (kk H locs ls hW hS hz hl)
  · exact va_alen hx hb hK.1 hP q0 t hq hty hv hdg (kk H locs ls hW hS hz hl)

theorem aw_iald {X : CX} {own : String} {bytes : ByteArray} {ret : Option FieldType} {fr lo mc ms n1 : Nat} {post : Option Value → HP → Prop} {n k sl pc : Nat} {h : HP} {L : List (Option Value)} {st : List Value} (hX : Cx X own bytes ret fr lo mc ms n1 post) {a N : Nat} {f : Nat → Int32} {i : Int32} (hh : h a = some (cI N f)) (hin : vp_in i N) (hdg : decode bytes pc = .ok (.iaload, 1)) (kk : AW X n h k sl (pc + 1) L (.int (f i.toNatClampNeg) :: st)) : AW X n h k sl pc L (.int i :: .ref a :: st) := by
  obtain ⟨p, l, e, R, s, m, args, below, meth, c, Q, E, nL⟩ := X
  obtain ⟨hx, hb, hml, hown, hts, hK, hlk, hr, hR, hQ⟩ := hX
  intro H locs ls hW hS hz hl
  obtain ⟨ws, q0, hP, hD, hq, -⟩ := Wd.list hW hh
  exact va_iald hx hb hK.1 hP q0 0 hq rfl hin hdg (kk H locs ls hW hS hz hl)

theorem aw_iast {X : CX} {own : String} {bytes : ByteArray} {ret : Option FieldType} {fr lo mc ms n1 : Nat} {post : Option Value → HP → Prop} {n k sl pc : Nat} {h : HP} {L : List (Option Value)} {st : List Value} (hX : Cx X own bytes ret fr lo mc ms n1 post) {a N : Nat} {f : Nat → Int32} {i x : Int32} (hh : h a = some (cI N f)) (hin : vp_in i N) (hdg : decode bytes pc = .ok (.iastore, 1)) (kk : AW X n (hset h a (cI N (upd f i.toNatClampNeg x))) k sl (pc + 1) L st) : AW X n h k sl pc L (.int x :: .int i :: .ref a :: st) := by
  obtain ⟨p, l, e, R, s, m, args, below, meth, c, Q, E, nL⟩ := X
  obtain ⟨hx, hb, hml, hown, hts, hK, hlk, hr, hR, hQ⟩ := hX
  intro H locs ls hW hS hz hl
  obtain ⟨ws, q0, hP, hD, hq, hback⟩ := Wd.list hW hh
  refine va_iast hx hb hK.1 hP hD hS q0 0 hq rfl hin hdg (fun H1 locs1 hP1 hD1 hS1 => W.sz (fun hsz => ?_))
  obtain ⟨hW1, hz1⟩ := hback (cI N (upd f i.toNatClampNeg x)) H1 hP1 (by omega)
  exact kk H1 locs1 ls hW1 hS1 (by omega) hl

theorem aw_lald {X : CX} {own : String} {bytes : ByteArray} {ret : Option FieldType} {fr lo mc ms n1 : Nat} {post : Option Value → HP → Prop} {n k sl pc : Nat} {h : HP} {L : List (Option Value)} {st : List Value} (hX : Cx X own bytes ret fr lo mc ms n1 post) {a N : Nat} {f : Nat → Int64} {i : Int32} (hh : h a = some (cL N f)) (hin : vp_in i N) (hdg : decode bytes pc = .ok (.laload, 1)) (kk : AW X n h k sl (pc + 1) L (.long (f i.toNatClampNeg) :: st)) : AW X n h k sl pc L (.int i :: .ref a :: st) := by
  obtain ⟨p, l, e, R, s, m, args, below, meth, c, Q, E, nL⟩ := X
  obtain ⟨hx, hb, hml, hown, hts, hK, hlk, hr, hR, hQ⟩ := hX
  intro H locs ls hW hS hz hl
  obtain ⟨ws, q0, hP, hD, hq, -⟩ := Wd.list hW hh
  exact va_lald hx hb hK.1 hP q0 3 hq rfl hin hdg (kk H locs ls hW hS hz hl)

theorem aw_last {X : CX} {own : String} {bytes : ByteArray} {ret : Option FieldType} {fr lo mc ms n1 : Nat} {post : Option Value → HP → Prop} {n k sl pc : Nat} {h : HP} {L : List (Option Value)} {st : List Value} (hX : Cx X own bytes ret fr lo mc ms n1 post) {a N : Nat} {f : Nat → Int64} {i : Int32} {x : Int64} (hh : h a = some (cL N f)) (hin : vp_in i N) (hdg : decode bytes pc = .ok (.lastore, 1)) (kk : AW X n (hset h a (cL N (vp_updL f i.toNatClampNeg x))) k sl (pc + 1) L st) : AW X n h k sl pc L (.long x :: .int i :: .ref a :: st) := by
  obtain ⟨p, l, e, R, s, m, args, below, meth, c, Q, E, nL⟩ := X
  obtain ⟨hx, hb, hml, hown, hts, hK, hlk, hr, hR, hQ⟩ := hX
  intro H locs ls hW hS hz hl
  obtain ⟨ws, q0, hP, hD, hq, hback⟩ := Wd.list hW hh
  refine va_last hx hb hK.1 hP hD hS q0 3 hq rfl hin hdg (fun H1 locs1 hP1 hD1 hS1 => W.sz (fun hsz => ?_))
  obtain ⟨hW1, hz1⟩ := hback (cL N (vp_updL f i.toNatClampNeg x)) H1 hP1 (by omega)
  exact kk H1 locs1 ls hW1 hS1 (by omega) hl

theorem aw_aald {X : CX} {own : String} {bytes : ByteArray} {ret : Option FieldType} {fr lo mc ms n1 : Nat} {post : Option Value → HP → Prop} {n k sl pc : Nat} {h : HP} {L : List (Option Value)} {st : List Value} (hX : Cx X own bytes ret fr lo mc ms n1 post) {a t N b : Nat} {g : Nat → Option Nat} {i : Int32} (hh : h a = some (cG t N g)) (ht : t = 1 ∨ t = 2) (hin : vp_in i N) (hb2 : g i.toNatClampNeg = some b) (hdg : decode bytes pc = .ok (.aaload, 1)) (kk : AW X n h k sl (pc + 1) L (.ref b :: st)) : AW X n h k sl pc L (.int i :: .ref a :: st) := by
  obtain ⟨p, l, e, R, s, m, args, below, meth, c, Q, E, nL⟩ := X
  obtain ⟨hx, hb, hml, hown, hts, hK, hlk, hr, hR, hQ⟩ := hX
  intro H locs ls hW hS hz hl
  obtain ⟨ws, q0, hP, hD, hq, -⟩ := Wd.list hW hh
  have hlt : i.toNatClampNeg < N := Nat.not_le.mp fun q => hin (Or.inr q)
  have hv : (arrV (eC E t) N (fun j => va_rf ((g j).map (ad E)))).slots[i.toNatClampNeg]? = some (.ref (ad E b)) := by
    rw [arrV_read _ _ hlt, hb2]
    rfl
  rcases ht with rfl | rfl
  · exact W.aald (ty := .array .int) hx hb (hP q0 _ hq) ((hK.1.2 1 _ rfl).1 N (fun j => va_rf ((g j).map (ad E)))) rfl (fun q => by cases q) (by show ¬ (i < 0 ∨ (arrV _ _ _).slots.size ≤ _); rw [arrV_size]; exact hin) hv rfl rfl hdg (kk H locs ls hW hS hz hl)
  · exact W.aald (ty := .object RX8) hx hb (hP q0 _ hq) ((hK.1.2 2 _ rfl).1 N (fun j => va_rf ((g j).map (ad E)))) rfl (fun q => by cases q) (by show ¬ (i < 0 ∨ (arrV _ _ _).slots.size ≤ _); rw [arrV_size]; exact hin) hv rfl rfl hdg (kk H locs ls hW hS hz hl)

theorem aw_roald {X : CX} {own : String} {bytes : ByteArray} {ret : Option FieldType} {fr lo mc ms n1 : Nat} {post : Option Value → HP → Prop} {n k sl pc : Nat} {h : HP} {L : List (Option Value)} {st : List Value} (hX : Cx X own bytes ret fr lo mc ms n1 post) {a : Nat} {i : Int32} (ha : a < 5) (hin : vp_in i (eN X.E a)) (hdg : decode bytes pc = .ok (.iaload, 1)) (kk : AW X n h k sl (pc + 1) L (.int (eF X.E a i.toNatClampNeg) :: st)) : AW X n h k sl pc L (.int i :: .ref a :: st) := by
  obtain ⟨p, l, e, R, s, m, args, below, meth, c, Q, E, nL⟩ := X
  obtain ⟨hx, hb, hml, hown, hts, hK, hlk, hr, hR, hQ⟩ := hX
  intro H locs ls hW hS hz hl
  have e1 : cv E (.ref a) = .ref (eT E a) := by simp [cv, ad, ha]
  show W p l e R s m args below meth c H locs k sl Q (F0 m pc ls (.int i :: cv E (.ref a) :: st.map (cv E)))
  rw [e1]
  exact va_ti hx hb (hK.2.2.1 a ha) hS hin rfl hdg (kk H locs ls hW hS hz hl)

theorem aw_rolen {X : CX} {own : String} {bytes : ByteArray} {ret : Option FieldType} {fr lo mc ms n1 : Nat} {post : Option Value → HP → Prop} {n k sl pc : Nat} {h : HP} {L : List (Option Value)} {st : List Value} (hX : Cx X own bytes ret fr lo mc ms n1 post) {a : Nat} (v : Int32) (ha : a < 5) (hv : Int32.ofNat (eN X.E a) = v) (hdg : decode bytes pc = .ok (.arraylength, 1)) (kk : AW X n h k sl (pc + 1) L (.int v :: st)) : AW X n h k sl pc L (.ref a :: st) := by
  obtain ⟨p, l, e, R, s, m, args, below, meth, c, Q, E, nL⟩ := X
  obtain ⟨hx, hb, hml, hown, hts, hK, hlk, hr, hR, hQ⟩ := hX
  intro H locs ls hW hS hz hl
  have e1 : cv E (.ref a) = .ref (eT E a) := by simp [cv, ad, ha]
  show W p l e R s m args below meth c H locs k sl Q (F0 m pc ls (cv E (.ref a) :: st.map (cv E)))
  rw [e1]
  exact va_tlen hx hb (hK.2.2.1 a ha) hS hv hdg (kk H locs ls hW hS hz hl)

theorem aw_gets {X : CX} {own : String} {bytes : ByteArray} {ret : Option FieldType} {fr lo mc ms n1 : Nat} {post : Option Value → HP → Prop} {n k sl pc : Nat} {h : HP} {L : List (Option Value)} {st : List Value} (hX : Cx X own bytes ret fr lo mc ms n1 post) {a ix : Nat} {nm : String} (hF : (nm = "FIRST_NUMBERS" ∧ a = 0) ∨ (nm = "LEAST_NUMBERS" ∧ a = 1) ∨ (nm = "MOST_NUMBERS" ∧ a = 2) ∨ (nm = "SHIFTS" ∧ a = 3)) (hlink : Cond.fieldLink own ix RX9 nm "[I" ∈ tbG) (hdg : decode bytes pc = .ok (.getstatic ix, 3)) (kk : AW X n h k sl (pc + 3) L (.ref a :: st)) : AW X n h k sl pc L st := by
  obtain ⟨p, l, e, R, s, m, args, below, meth, c, Q, E, nL⟩ := X
  obtain ⟨hx, hb, hml, hown, hts, hK, hlk, hr, hR, hQ⟩ := hX
  intro H locs ls hW hS hz hl
  obtain ⟨z0, z1, z2, z3⟩ := hK.2.1
  have hk := kk H locs ls hW hS hz hl
  rcases hF with ⟨rfl, rfl⟩ | ⟨rfl, rfl⟩ | ⟨rfl, rfl⟩ | ⟨rfl, rfl⟩
  · exact va_gets hx hb z0 hS hown (hts _ hlink) (fun _ q => q) hdg hk
  · exact va_gets hx hb z1 hS hown (hts _ hlink) (fun _ q => q) hdg hk
  · exact va_gets hx hb z2 hS hown (hts _ hlink) (fun _ q => q) hdg hk
  · exact va_gets hx hb z3 hS hown (hts _ hlink) (fun _ q => q) hdg hk

theorem aw_getsN {X : CX} {own : String} {bytes : ByteArray} {ret : Option FieldType} {fr lo mc ms n1 : Nat} {post : Option Value → HP → Prop} {n k sl pc : Nat} {h : HP} {L : List (Option Value)} {st : List Value} (hX : Cx X own bytes ret fr lo mc ms n1 post) {a ix : Nat} {nm host : String} (own2 : String) (ho : own2 = own) (hF : (nm = "FIRST_NUMBERS" ∧ a = 0) ∨ (nm = "LEAST_NUMBERS" ∧ a = 1) ∨ (nm = "MOST_NUMBERS" ∧ a = 2) ∨ (nm = "SHIFTS" ∧ a = 3)) (hlink : Cond.fieldLinkNest own2 ix RX9 nm "[I" host ∈ lw_tbl) (hdg : decode bytes pc = .ok (.getstatic ix, 3)) (kk : AW X n h k sl (pc + 3) L (.ref a :: st)) : AW X n h k sl pc L st := by
  obtain ⟨p, l, e, R, s, m, args, below, meth, c, Q, E, nL⟩ := X
  obtain ⟨hx, hb, hml, hown, hts, hK, hlk, hr, hR, hQ⟩ := hX
  intro H locs ls hW hS hz hl
  subst ho
  obtain ⟨z0, z1, z2, z3⟩ := hK.2.1
  have hk := kk H locs ls hW hS hz hl
  rcases hF with ⟨rfl, rfl⟩ | ⟨rfl, rfl⟩ | ⟨rfl, rfl⟩ | ⟨rfl, rfl⟩
  · exact va_getsN hx hb z0 hS hown (hK.nest hlink rfl) (fun _ q => q) hdg hk
  · exact va_getsN hx hb z1 hS hown (hK.nest hlink rfl) (fun _ q => q) hdg hk
  · exact va_getsN hx hb z2 hS hown (hK.nest hlink rfl) (fun _ q => q) hdg hk
  · exact va_getsN hx hb z3 hS hown (hK.nest hlink rfl) (fun _ q => q) hdg hk

theorem aw_get {X : CX} {own : String} {bytes : ByteArray} {ret : Option FieldType} {fr lo mc ms n1 : Nat} {post : Option Value → HP → Prop} {n k sl pc : Nat} {h : HP} {L : List (Option Value)} {st : List Value} (hX : Cx X own bytes ret fr lo mc ms n1 post) {own2 C : String} {T : u_T} {N ci ix a : Nat} {fs : List Value} {v : Value} (k0 : Nat) (ho : own2 = own) (hc : vwCl[ci]? = some (C, T, N)) (hin : ∀ w ∈ u_ws C T N, w ∈ tbG) (hlink : Cond.fieldLink own2 ix (T k0).1 (T k0).2.1 (T k0).2.2.1 ∈ tbG) (hk0 : k0 < N) (hh : h a = some (cO ci fs)) (hv : fs[k0]? = some v) (hdg : decode bytes pc = .ok (.getfield ix, 3)) (kk : AW X n h k sl (pc + 3) L (v :: st)) : AW X n h k sl pc L (.ref a :: st) := by
  obtain ⟨p, l, e, R, s, m, args, below, meth, c, Q, E, nL⟩ := X
  obtain ⟨hx, hb, hml, hown, hts, hK, hlk, hr, hR, hQ⟩ := hX
  intro H locs ls hW hS hz hl
  subst ho
  obtain ⟨ws, q0, hP, hD, hq, -⟩ := Wd.list hW hh
  exact va_get hx hb hts hin hown hK.1 hP q0 hq hc k0 hk0 (hts _ hlink) (fun _ q => q) (by rw [List.getElem?_map, hv]; rfl) hdg (kk H locs ls hW hS hz hl)

theorem aw_getN {X : CX} {own : String} {bytes : ByteArray} {ret : Option FieldType} {fr lo mc ms n1 : Nat} {post : Option Value → HP → Prop} {n k sl pc : Nat} {h : HP} {L : List (Option Value)} {st : List Value} (hX : Cx X own bytes ret fr lo mc ms n1 post) {own2 C host : String} {T : u_T} {N ci ix a : Nat} {fs : List Value} {v : Value} (k0 : Nat) (ho : own2 = own) (hc : vwCl[ci]? = some (C, T, N)) (hin : ∀ w ∈ u_ws C T N, w ∈ tbG) (hlink : Cond.fieldLinkNest own2 ix (T k0).1 (T k0).2.1 (T k0).2.2.1 host ∈ lw_tbl) (hk0 : k0 < N) (hh : h a = some (cO ci fs)) (hv : fs[k0]? = some v) (hdg : decode bytes pc = .ok (.getfield ix, 3)) (kk : AW X n h k sl (pc + 3) L (v :: st)) : AW X n h k sl pc L (.ref a :: st) := by
  obtain ⟨p, l, e, R, s, m, args, below, meth, c, Q, E, nL⟩ := X
  obtain ⟨hx, hb, hml, hown, hts, hK, hlk, hr, hR, hQ⟩ := hX
  intro H locs ls hW hS hz hl
  subst ho
  obtain ⟨ws, q0, hP, hD, hq, -⟩ := Wd.list hW hh
  exact va_getN hx hb hts hin hown hK.1 hP q0 hq hc k0 hk0 (hK.nest hlink rfl) (fun _ q => q) (by rw [List.getElem?_map, hv]; rfl) hdg (kk H locs ls hW hS hz hl)

theorem aw_put {X : CX} {own : String} {bytes : ByteArray} {ret : Option FieldType} {fr lo mc ms n1 : Nat} {post : Option Value → HP → Prop} {n k sl pc : Nat} {h : HP} {L : List (Option Value)} {st : List Value} (hX : Cx X own bytes ret fr lo mc ms n1 post) {own2 C : String} {T : u_T} {N ci ix a : Nat} {fs : List Value} {v : Value} {ty : FieldType} (k0 : Nat) (ho : own2 = own) (hc : vwCl[ci]? = some (C, T, N)) (hin : ∀ w ∈ u_ws C T N, w ∈ tbG) (ty0 : Nat → FieldType) (hty : ∀ k, k < N → parseFieldDescriptor (T k).2.2.1 = some (ty0 k)) (hnm : ∀ a, a < N → ∀ b, b < N → a ≠ b → (T a).2.1 ≠ (T b).2.1) (hlink : Cond.fieldLink own2 ix (T k0).1 (T k0).2.1 (T k0).2.2.1 ∈ tbG) (hk0 : k0 < N) (hfin : (T k0).2.2.2 = false) (hd : parseFieldDescriptor (T k0).2.2.1 = some ty) (hn : narrow ty (cv X.E v) = cv X.E v) (hft : fits ty (cv X.E v) = true) (hh : h a = some (cO ci fs)) (hlen : k0 < fs.length) (hdg : decode bytes pc = .ok (.putfield ix, 3)) (kk : AW X n (hset h a (cO ci (fs.set k0 v))) k sl (pc + 3) L st) : AW X n h k sl pc L (v :: .ref a :: st) := by
  obtain ⟨p, l, e, R, s, m, args, below, meth, c, Q, E, nL⟩ := X
  obtain ⟨hx, hb, hml, hown, hts, hK, hlk, hr, hR, hQ⟩ := hX
  intro H locs ls hW hS hz hl
  subst ho
  obtain ⟨ws, q0, hP, hD, hq, hback⟩ := Wd.list hW hh
  refine va_put hx hb hts hin ty0 hty hnm hown hK.1 hP hD hS q0 hq hc k0 hk0 (hts _ hlink) (fun _ q => q) hfin  hd (ty := ty) hn hft (by rw [List.length_map]; exact hlen) hdg (fun H1 locs1 hP1 hD1 hS1 => W.sz (fun hsz => ?_))
  rw [← cc_set E ci fs k0] at hP1
  obtain ⟨hW1, hz1⟩ := hback (cO ci (fs.set k0 v)) H1 hP1 (by omega)
  exact kk H1 locs1 ls hW1 hS1 (by omega) hl

theorem aw_putF {X : CX} {own : String} {bytes : ByteArray} {ret : Option FieldType} {fr lo mc ms n1 : Nat} {post : Option Value → HP → Prop} {n k sl pc : Nat} {h : HP} {L : List (Option Value)} {st : List Value} (hX : Cx X own bytes ret fr lo mc ms n1 post) {own2 C : String} {T : u_T} {N ci ix a : Nat} {fs : List Value} {v : Value} {ty : FieldType} (k0 : Nat) (ho : own2 = own) (hc : vwCl[ci]? = some (C, T, N)) (hin : ∀ w ∈ u_ws C T N, w ∈ tbG) (ty0 : Nat → FieldType) (hty : ∀ k, k < N → parseFieldDescriptor (T k).2.2.1 = some (ty0 k)) (hnm : ∀ a, a < N → ∀ b, b < N → a ≠ b → (T a).2.1 ≠ (T b).2.1) (hlink : Cond.fieldLink own2 ix (T k0).1 (T k0).2.1 (T k0).2.2.1 ∈ tbG) (hk0 : k0 < N) (hfin : (T k0).2.2.2 = true) (hini : X.2.2.2.2.2.2.2.2.1.name = "<init>") (hdecl : (T k0).1 = own2) (hd : parseFieldDescriptor (T k0).2.2.1 = some ty) (hn : narrow ty (cv X.E v) = cv X.E v) (hft : fits ty (cv X.E v) = true) (hh : h a = some (cO ci fs)) (hlen : k0 < fs.length) (hdg : decode bytes pc = .ok (.putfield ix, 3)) (kk : AW X n (hset h a (cO ci (fs.set k0 v))) k sl (pc + 3) L st) : AW X n h k sl pc L (v :: .ref a :: st) := by
  obtain ⟨p, l, e, R, s, m, args, below, meth, c, Q, E, nL⟩ := X
  obtain ⟨hx, hb, hml, hown, hts, hK, hlk, hr, hR, hQ⟩ := hX
  intro H locs ls hW hS hz hl
  subst ho
  obtain ⟨ws, q0, hP, hD, hq, hback⟩ := Wd.list hW hh
  refine va_putF hx hb hts hin ty0 hty hnm hown hK.1 hP hD hS q0 hq hc k0 hk0 (hts _ hlink) (fun _ q => q) hfin hini hdecl hd (ty := ty) hn hft (by rw [List.length_map]; exact hlen) hdg (fun H1 locs1 hP1 hD1 hS1 => W.sz (fun hsz => ?_))
  rw [← cc_set E ci fs k0] at hP1
  obtain ⟨hW1, hz1⟩ := hback (cO ci (fs.set k0 v)) H1 hP1 (by omega)
  exact kk H1 locs1 ls hW1 hS1 (by omega) hl

theorem aw_iret {X : CX} {own : String} {bytes : ByteArray} {ret : Option FieldType} {fr lo mc ms n1 : Nat} {post : Option Value → HP → Prop} {n k sl pc : Nat} {h : HP} {L : List (Option Value)} (hX : Cx X own bytes ret fr lo mc ms n1 post) {v : Int32} (hr1 : ret = some .int) (hn1 : n1 = n) (hk1 : mc = k) (hs1 : ms = sl) (hdg : decode bytes pc = .ok (.ireturn, 1)) (hp : post (some (.int v)) h)  : AW X n h k sl pc L [.int v] := by
  obtain ⟨p, l, e, R, s, m, args, below, meth, c, Q, E, nL⟩ := X
  obtain ⟨hx, hb, hml, hown, hts, hK, hlk, hr, hR, hQ⟩ := hX
  intro H locs ls hW hS hz hl
  subst hQ
  subst hn1
  subst hk1
  subst hs1
  exact W.iret hx hb (hr.trans hr1) (fun t ht _ => ⟨⟨some (.int v), h, rfl, hp, by rw [ht]; exact hW⟩, hS.F ht⟩) hS.2.2 hdg hlk

theorem aw_zret {X : CX} {own : String} {bytes : ByteArray} {ret : Option FieldType} {fr lo mc ms n1 : Nat} {post : Option Value → HP → Prop} {n k sl pc : Nat} {h : HP} {L : List (Option Value)} (hX : Cx X own bytes ret fr lo mc ms n1 post) {v : Int32} (hr1 : ret = some .boolean) (hv : v = 0 ∨ v = 1) (hn1 : n1 = n) (hk1 : mc = k) (hs1 : ms = sl) (hdg : decode bytes pc = .ok (.ireturn, 1)) (hp : post (some (.int v)) h)  : AW X n h k sl pc L [.int v] := by
  obtain ⟨p, l, e, R, s, m, args, below, meth, c, Q, E, nL⟩ := X
  obtain ⟨hx, hb, hml, hown, hts, hK, hlk, hr, hR, hQ⟩ := hX
  intro H locs ls hW hS hz hl
  subst hQ
  subst hn1
  subst hk1
  subst hs1
  exact W.zret hx hb (hr.trans hr1) (by rcases hv with rfl | rfl <;> rfl) (fun t ht _ => ⟨⟨some (.int v), h, rfl, hp, by rw [ht]; exact hW⟩, hS.F ht⟩) hS.2.2 hdg hlk

theorem aw_vret {X : CX} {own : String} {bytes : ByteArray} {ret : Option FieldType} {fr lo mc ms n1 : Nat} {post : Option Value → HP → Prop} {n k sl pc : Nat} {h : HP} {L : List (Option Value)} (hX : Cx X own bytes ret fr lo mc ms n1 post) (hr1 : ret = none) (hn1 : n1 = n) (hk1 : mc = k) (hs1 : ms = sl) (hdg : decode bytes pc = .ok (.return_, 1)) (hp : post none h)  : AW X n h k sl pc L [] := by
  obtain ⟨p, l, e, R, s, m, args, below, meth, c, Q, E, nL⟩ := X
  obtain ⟨hx, hb, hml, hown, hts, hK, hlk, hr, hR, hQ⟩ := hX
  intro H locs ls hW hS hz hl
  subst hQ
  subst hn1
  subst hk1
  subst hs1
  exact W.vret hx hb (hr.trans hr1) (fun t ht _ => ⟨⟨none, h, rfl, hp, by rw [ht]; exact hW⟩, hS.F ht⟩) hS.2.2 hdg hlk

theorem aw_aret {X : CX} {own : String} {bytes : ByteArray} {ret : Option FieldType} {fr lo mc ms n1 : Nat} {post : Option Value → HP → Prop} {n k sl pc : Nat} {h : HP} {L : List (Option Value)} (hX : Cx X own bytes ret fr lo mc ms n1 post) {a : Nat} {nm : String} (hr1 : ret = some (.object nm)) (hn1 : n1 = n) (hk1 : mc = k) (hs1 : ms = sl) (hdg : decode bytes pc = .ok (.areturn, 1)) (hp : post (some (.ref a)) h)  : AW X n h k sl pc L [.ref a] := by
  obtain ⟨p, l, e, R, s, m, args, below, meth, c, Q, E, nL⟩ := X
  obtain ⟨hx, hb, hml, hown, hts, hK, hlk, hr, hR, hQ⟩ := hX
  intro H locs ls hW hS hz hl
  subst hQ
  subst hn1
  subst hk1
  subst hs1
  exact W.aret hx hb (hr.trans hr1) (Or.inl ⟨_, rfl⟩) (Or.inr ⟨_, rfl⟩) (fun t ht _ => ⟨⟨some (.ref a), h, rfl, hp, by rw [ht]; exact hW⟩, hS.F ht⟩) hS.2.2 hdg hlk
end
section
/-! calls over the abstract world -/
theorem tb_in {y : MethodName} {b : ByteArray} {nL : Nat} {ret : Option FieldType} (hc : Cond.code y b nL ret ∈ tbG) : GoodIn tbG (.code y b nL ret :: tbG) := by
  intro w hw
  have h1 : w ∈ tbG := by
    rcases List.mem_cons.mp hw with rfl | h
    · exact hc
    · exact h
  exact ⟨h1, good_of_word (List.mem_filter.mp h1).2⟩
theorem Wd.szk {E : EV} {n n' d k : Nat} {h h' : HP} {H H1 : Heap} {z : Nat} (hW : Wd E n h H) (hW1 : Wd E n' h' H1) (hn : n' = n + d) (hz : H.size = z + k) : H1.size = z + (k + d) := by
  have h1 := hW.2.1
  have h2 := hW1.2.1
  have h3 := hW.1
  omega
/-- what the tables say of a method -/
def MF (y : MethodName) (b : ByteArray) (nL : Nat) (ret : Option FieldType) (np : Nat) : Prop :=
  Cond.code y b nL ret ∈ tbG ∧ Cond.initialized y.cls ∈ tbG ∧ (y.cls ≠ "java/lang/invoke/MethodHandle" ∧ y.cls ≠ "java/lang/invoke/VarHandle" ∧ (parseMethodDescriptor y.desc).map (fun d => d.parameters.length) = some np) ∧ plainFor y = true
theorem va_F.refl {A : Nat → Prop} (s : State) : va_F A s s := ⟨Nat.le_refl _, fun _ _ _ => rfl⟩
theorem Met.ofWF {l : Launch} {y : MethodName} {ws ws' : List Cond} {rm : Room} {Pc : Array Value → State → Prop} {Qc : Array Value → State → Outcome → State → Prop} {mc ms : Nat} {free : Addr → Prop} {b : ByteArray} {maxL : Nat} {ret : Option FieldType} (hy : plainFor y = true) (hw : ws = Cond.code y b maxL ret :: ws')
    (body : ∀ p e s m args below meth c s₁, BodyLoose p l y (headSpec ws rm) b maxL ret e s m args below meth c s₁ → c.maxLocals = maxL → Pc args s →
      W p l e (headSpec ws rm).room s m args below meth c s.heap [] 0 0 (MQ below Qc args s mc ms free) (entryFrame m args maxL)) : Met l y ws rm Pc Qc mc ms free := by
  refine MetFree.of_bodySF (code := b) (maxLocals := maxL) (ret := ret) hy ?_ ?_
  · intro args s m h hn
    obtain ⟨meth, c, h1, h2, h3, h4, h5, h6, -, -⟩ := Cond.code_spec hn (atoms_spec (ws := ws) h _ (by rw [hw]; exact List.mem_cons_self))
    exact ⟨meth, c, h1, h2, h3, h4, h5, h6⟩
  · intro p e s m args below meth c s₁ B hml hP _
    obtain ⟨t, a1, o, b1, b2, b3⟩ := body p e s m args below meth c s₁ B hml hP s₁ (by rw [B.state]; rfl) (Stand.of_body B)
    exact ⟨t, o, a1, b1, b2, b3.1, b3.2⟩
/-- a contract out of the walk of its body -/
theorem AM.intro {l : Launch} {y : MethodName} {b : ByteArray} {nL np : Nat} {ret : Option FieldType} {fr lo mc ms : Nat} {E : EV} {n : Nat} {h : HP} {As : List Value} {post : Option Value → HP → Prop} (hy : MF y b nL ret np) (hcat : ∀ v ∈ As, v.category = 1) (hlen : As.length ≤ nL)
    (body : ∀ X : CX, X.l = l → X.E = E → X.2.2.2.2.2.2.2.2.1.name = y.name → Cx X y.cls b ret fr lo mc ms (n + mc) post → AW X n h 0 0 0 (As.map some ++ List.replicate (nL - As.length) none) []) : AM l y b nL ret fr lo mc ms E n h As post := by
  refine Met.ofWF (b := b) (maxL := nL) (ret := ret) hy.2.2.2 rfl ?_
  intro p e s m args below meth c s₁ B hml hv
  obtain ⟨rfl, hW, hK⟩ := hv
  have hts := atoms_spec (ws := .code y b nL ret :: tbG) B.pre
  have hb := body (p, l, e, (headSpec (.code y b nL ret :: tbG) (rmA fr lo mc ms)).room, s, m, (As.map (cv E)).toArray, below, meth, c, MQ below (AQ E (n + mc) post) (As.map (cv E)).toArray s mc ms (eA E), E, nL) rfl rfl
    (name_of_methodNamed B.named B.method).1
    ⟨B.exec, B.bytes, hml, findClass_of_methodNamed B.named, fun w hw => hts w (List.mem_cons_of_mem _ hw), hK, B.notSynchronized, B.returns, rfl, rfl⟩
  rw [lg_entry_eq]
  have hcat' : ∀ v ∈ As.map (cv E), v.category = 1 := by
    intro v hv
    obtain ⟨w, h1, rfl⟩ := List.mem_map.mp hv
    exact (cv_cat E w).trans (hcat w h1)
  have hsl : lg_sl (As.map (cv E)) = (As.map (cv E)).map Slot.val := lg_sl_one _ hcat'
  have hle : (lg_sl (As.map (cv E))).length ≤ nL := by rw [hsl, List.length_map, List.length_map]; exact hlen
  have hl := lv_entry (As.map (cv E)) (n := nL) hle
  refine hb s.heap [] _ hW va_S.rf rfl ⟨hl.1, hl.2.1, ?_, ?_⟩
  · rw [List.length_append, List.length_map, List.length_replicate]
    omega
  · intro i v hi
    rcases Nat.lt_or_ge i As.length with q | q
    · rw [List.getElem?_append_left (by rw [List.length_map]; exact q), List.getElem?_map] at hi
      obtain ⟨w, h1, h2⟩ := Option.map_eq_some_iff.mp hi
      cases h2
      refine ⟨?_, hcat _ (List.mem_of_getElem? h1)⟩
      rw [hsl, List.getElem?_toArray, List.getElem?_append_left (by rw [List.length_map, List.length_map]; exact q), List.getElem?_map, List.getElem?_map, h1]
      rfl
    · rw [List.getElem?_append_right (by rw [List.length_map]; exact q)] at hi
      have := List.mem_of_getElem? hi
      exact absurd (List.eq_of_mem_replicate this) (by simp)
theorem blindA {E : EV} {n : Nat} {h : HP} {As : List Value} : FrameBlind (va_Pc As (fun U => Wd E n h U.heap ∧ Ks E U)) := fun a U g mk q =>
  ⟨q.1, q.2.1, q.2.2.moved (u := U) (U := U.calling g mk a) (State.WarmedH.refl U) (Nat.le_refl _) (fun _ _ _ => rfl)⟩
theorem W.ofRun {p : Program} {l : Launch} {e : Env} {R : Room} {s : State} {m : MethodId} {args a : Array Value} {below : List Frame} {meth : Method} {c : Code} {H : Heap} {locs : List Loc} {cells slots mc ms pc n' : Nat} {ls : Array Slot} {st0 rest : List Value} {Q : State → Prop} {E : EV} {post : Option Value → HP → Prop}
    (hr : va_Run p l e R s m args below meth c H locs cells slots mc ms (F0 m pc ls st0) rest (AQ E n' post a) (eA E)) (hS : va_S (eA E) s.heap H locs)
    (kk : ∀ (v : Option Value) (h' : HP) (H1 : Heap) (locs1 : List Loc), post v h' → Wd E n' h' H1 → va_S (eA E) s.heap H1 locs1 → W p l e R s m args below meth c H1 locs1 (cells + mc) (slots + ms) Q (F0 m (pc + 3) ls ((v.map (cv E)).toList ++ rest))) : W p l e R s m args below meth c H locs cells slots Q (F0 m pc ls st0) := by
  intro T hT X
  obtain ⟨v, st₀, t, T', L, h0, X', hL, e1, e2, ⟨⟨w, h', hv, hp, hw⟩, hz, hk⟩, st⟩ := hr T hT X
  cases hv
  rw [h0] at hz hk
  obtain ⟨t2, a1, b1⟩ := kk w h' T'.heap (locs ++ L) hp (by rw [e1]; exact hw)
    ⟨Nat.le_trans hS.1 (by rw [e1]; exact hz), fun q h1 h2 => by rw [e1, hk q (Nat.lt_of_lt_of_le h1 hS.1) h2]; exact hS.2.1 q h1 h2, fun q hq => by
      rcases List.mem_append.mp hq with h | h
      · exact hS.2.2 q h
      · exact hL q h⟩ T' rfl X'
  exact ⟨t2, st t2 a1, b1⟩
theorem cv_toList (E : EV) (v : Option Value) (st : List Value) : (v.map (cv E)).toList ++ st.map (cv E) = (v.toList ++ st).map (cv E) := by cases v <;> rfl
theorem cat_map (E : EV) (st : List Value) : ((st.map (cv E)).map fun v => v.category) = st.map fun v => v.category := by
  rw [List.map_map]
  exact List.map_congr_left (fun v _ => cv_cat E v)
theorem Ks.at {E : EV} {s U : State} {H : Heap} {locs : List Loc} (hK : Ks E s) (hS : va_S (eA E) s.heap H locs) (hU : U.heap = H) (hW : s.WarmedH U.vm) : Ks E U :=
  hK.moved hW (by rw [hU]; exact hS.1) (fun a h1 h2 => by rw [hU]; exact hS.2.1 a h1 h2)
section ACALL
variable {X : CX} {own : String} {bytes : ByteArray} {ret : Option FieldType} {fr lo mc ms n1 : Nat} {post : Option Value → HP → Prop} {n k sl pc : Nat} {h : HP} {L : List (Option Value)} {st st0 : List Value}
variable {y : MethodName} {b' : ByteArray} {nL' np : Nat} {ret' : Option FieldType} {fr' lo' mc' ms' ix a ci : Nat} {As fs : List Value} {post' : Option Value → HP → Prop} {C : String} {T : u_T} {N : Nat}
/-- an instance method of the class that the receiver has -/
theorem aw_callV (hX : Cx X own bytes ret fr lo mc ms n1 post) (own2 : String) (ho : own2 = own) (hM : AM X.l y b' nL' ret' fr' lo' mc' ms' X.E n h (.ref a :: As) post') (hst0 : As.reverse ++ .ref a :: st = st0) (hy : MF y b' nL' ret' np) (hi : Cond.instanceMethod y ∈ tbG) (hsel : Cond.selects y.cls y y ∈ tbG) (hlink : Cond.methodLink own2 ix y ∈ tbG)
    (hh : h a = some (cO ci fs)) (hcl : vwCl[ci]? = some (y.cls, T, N)) (hnp : As.length = np) (hR : fr' + 1 ≤ fr ∧ 8 + (nL' + 11) + lo' ≤ lo) (hst : (st.map fun v => v.category).sum ≤ 8) (hdg : decode bytes pc = .ok (.invokevirtual ix, 3)) (hf : k + mc' ≤ mc ∧ sl + ms' ≤ ms)
    (kk : ∀ v h', post' v h' → AW X (n + mc') h' (k + mc') (sl + ms') (pc + 3) L (v.toList ++ st)) : AW X n h k sl pc L st0 := by
  obtain ⟨p, l, e, R, s, m, args, below, meth, c, Q, E, nL⟩ := X
  obtain ⟨hx, hb, hml, hown, hts, hK, hlk, hr, rfl, hQ⟩ := hX
  subst ho
  subst hst0
  intro H locs ls hW hS hz hl
  obtain ⟨ws, q0, hP, hD, hq, -⟩ := Wd.list hW hh
  refine W.ofRun (va_runV (As := As.map (cv E)) (rest := st.map (cv E)) (b := ad E a) (C := y.cls) ⟨hx, hb, hml, hown, hts⟩ hM ⟨callB_of np hts (tb_in hy.1) rfl rfl rfl (hts _ hy.2.1) (hts _ hlink) hy.2.2.1 hR, hts _ hi, hts _ hsel⟩
    ⟨blindA, va_recv hK.1 hP hcl hq, fun U hU hWm => ⟨rfl, by rw [hU]; exact hW, hK.at hS hU hWm⟩⟩ rfl (by rw [List.length_map]; exact hnp) hl.1 (by simp [cv_ref]) (by rw [cat_map]; exact lv_room hst) hdg hf) hS (fun v h' H1 locs1 hp hW1 hS1 => ?_)
  rw [cv_toList]
  exact kk v h' hp H1 locs1 ls hW1 hS1 (Wd.szk hW hW1 rfl hz) hl
/-- the same, of a nest mate -/
theorem aw_callVN (hX : Cx X own bytes ret fr lo mc ms n1 post) (own2 host : String) (ho : own2 = own) (hM : AM X.l y b' nL' ret' fr' lo' mc' ms' X.E n h (.ref a :: As) post') (hst0 : As.reverse ++ .ref a :: st = st0) (hy : MF y b' nL' ret' np) (hi : Cond.instanceMethod y ∈ tbG) (hsel : Cond.selects y.cls y y ∈ tbG) (hlink : Cond.methodLinkNest own2 ix y host ∈ lw_tbl)
    (hh : h a = some (cO ci fs)) (hcl : vwCl[ci]? = some (y.cls, T, N)) (hnp : As.length = np) (hR : fr' + 1 ≤ fr ∧ 8 + (nL' + 11) + lo' ≤ lo) (hst : (st.map fun v => v.category).sum ≤ 8) (hdg : decode bytes pc = .ok (.invokevirtual ix, 3)) (hf : k + mc' ≤ mc ∧ sl + ms' ≤ ms)
    (kk : ∀ v h', post' v h' → AW X (n + mc') h' (k + mc') (sl + ms') (pc + 3) L (v.toList ++ st)) : AW X n h k sl pc L st0 := by
  obtain ⟨p, l, e, R, s, m, args, below, meth, c, Q, E, nL⟩ := X
  obtain ⟨hx, hb, hml, hown, hts, hK, hlk, hr, rfl, hQ⟩ := hX
  subst ho
  subst hst0
  intro H locs ls hW hS hz hl
  obtain ⟨ws, q0, hP, hD, hq, -⟩ := Wd.list hW hh
  refine W.ofRun (va_runVN (As := As.map (cv E)) (rest := st.map (cv E)) (b := ad E a) (C := y.cls) ⟨hx, hb, hml, hown, hts⟩ hM ⟨va_cnB np hts (tb_in hy.1) rfl rfl rfl (hK.nest hlink rfl) (hts _ hy.2.1) hy.2.2.1 hR, hts _ hi, hts _ hsel⟩
    ⟨blindA, va_recv hK.1 hP hcl hq, fun U hU hWm => ⟨rfl, by rw [hU]; exact hW, hK.at hS hU hWm⟩⟩ rfl (by rw [List.length_map]; exact hnp) hl.1 (by simp [cv_ref]) (by rw [cat_map]; exact lv_room hst) hdg hf) hS (fun v h' H1 locs1 hp hW1 hS1 => ?_)
  rw [cv_toList]
  exact kk v h' hp H1 locs1 ls hW1 hS1 (Wd.szk hW hW1 rfl hz) hl
/-- a static method -/
theorem aw_callS (hX : Cx X own bytes ret fr lo mc ms n1 post) (own2 : String) (ho : own2 = own) (hM : AM X.l y b' nL' ret' fr' lo' mc' ms' X.E n h As post') (hst0 : As.reverse ++ st = st0) (hy : MF y b' nL' ret' np) (hs : Cond.static y ∈ tbG) (hlink : Cond.methodLink own2 ix y ∈ tbG)
    (hnp : As.length = np) (hR : fr' + 1 ≤ fr ∧ 8 + (nL' + 11) + lo' ≤ lo) (hst : (st.map fun v => v.category).sum ≤ 8) (hdg : decode bytes pc = .ok (.invokestatic ix, 3)) (hf : k + mc' ≤ mc ∧ sl + ms' ≤ ms)
    (kk : ∀ v h', post' v h' → AW X (n + mc') h' (k + mc') (sl + ms') (pc + 3) L (v.toList ++ st)) : AW X n h k sl pc L st0 := by
  obtain ⟨p, l, e, R, s, m, args, below, meth, c, Q, E, nL⟩ := X
  obtain ⟨hx, hb, hml, hown, hts, hK, hlk, hr, rfl, hQ⟩ := hX
  subst ho
  subst hst0
  intro H locs ls hW hS hz hl
  refine W.ofRun (va_runS (As := As.map (cv E)) (rest := st.map (cv E)) ⟨hx, hb, hml, hown, hts⟩ hM ⟨callB_of np hts (tb_in hy.1) rfl rfl rfl (hts _ hy.2.1) (hts _ hlink) hy.2.2.1 hR, hts _ hs⟩
    ⟨blindA, fun U hU hWm => ⟨rfl, by rw [hU]; exact hW, hK.at hS hU hWm⟩⟩ rfl (by rw [List.length_map]; exact hnp) hl.1 (by simp) (by rw [cat_map]; exact lv_room hst) hdg hf) hS (fun v h' H1 locs1 hp hW1 hS1 => ?_)
  rw [cv_toList]
  exact kk v h' hp H1 locs1 ls hW1 hS1 (Wd.szk hW hW1 rfl hz) hl
/-- a static method of a nest mate -/
theorem aw_callSN (hX : Cx X own bytes ret fr lo mc ms n1 post) (own2 host : String) (ho : own2 = own) (hM : AM X.l y b' nL' ret' fr' lo' mc' ms' X.E n h As post') (hst0 : As.reverse ++ st = st0) (hy : MF y b' nL' ret' np) (hs : Cond.static y ∈ tbG) (hlink : Cond.methodLinkNest own2 ix y host ∈ lw_tbl)
    (hnp : As.length = np) (hR : fr' + 1 ≤ fr ∧ 8 + (nL' + 11) + lo' ≤ lo) (hst : (st.map fun v => v.category).sum ≤ 8) (hdg : decode bytes pc = .ok (.invokestatic ix, 3)) (hf : k + mc' ≤ mc ∧ sl + ms' ≤ ms)
    (kk : ∀ v h', post' v h' → AW X (n + mc') h' (k + mc') (sl + ms') (pc + 3) L (v.toList ++ st)) : AW X n h k sl pc L st0 := by
  obtain ⟨p, l, e, R, s, m, args, below, meth, c, Q, E, nL⟩ := X
  obtain ⟨hx, hb, hml, hown, hts, hK, hlk, hr, rfl, hQ⟩ := hX
  subst ho
  subst hst0
  intro H locs ls hW hS hz hl
  refine W.ofRun (va_runSN (As := As.map (cv E)) (rest := st.map (cv E)) ⟨hx, hb, hml, hown, hts⟩ hM ⟨va_cnB np hts (tb_in hy.1) rfl rfl rfl (hK.nest hlink rfl) (hts _ hy.2.1) hy.2.2.1 hR, hts _ hs, trivial⟩
    ⟨blindA, fun U hU hWm => ⟨rfl, by rw [hU]; exact hW, hK.at hS hU hWm⟩⟩ rfl (by rw [List.length_map]; exact hnp) hl.1 (by simp) (by rw [cat_map]; exact lv_room hst) hdg hf) hS (fun v h' H1 locs1 hp hW1 hS1 => ?_)
  rw [cv_toList]
  exact kk v h' hp H1 locs1 ls hW1 hS1 (Wd.szk hW hW1 rfl hz) hl
/-- a constructor -/
theorem aw_callI (hX : Cx X own bytes ret fr lo mc ms n1 post) (own2 : String) (ho : own2 = own) (hM : AM X.l y b' nL' none fr' lo' mc' ms' X.E n h (.ref a :: As) post') (hst0 : As.reverse ++ .ref a :: st = st0) (hy : MF y b' nL' none np) (hi : Cond.instanceMethod y ∈ tbG) (hy1 : y.name = "<init>") (hlink : Cond.methodLink own2 ix y ∈ tbG)
    (hnp : As.length = np) (hR : fr' + 1 ≤ fr ∧ 8 + (nL' + 11) + lo' ≤ lo) (hst : (st.map fun v => v.category).sum ≤ 8) (hdg : decode bytes pc = .ok (.invokespecial ix, 3)) (hf : k + mc' ≤ mc ∧ sl + ms' ≤ ms)
    (kk : ∀ v h', post' v h' → AW X (n + mc') h' (k + mc') (sl + ms') (pc + 3) L (v.toList ++ st)) : AW X n h k sl pc L st0 := by
  obtain ⟨p, l, e, R, s, m, args, below, meth, c, Q, E, nL⟩ := X
  obtain ⟨hx, hb, hml, hown, hts, hK, hlk, hr, rfl, hQ⟩ := hX
  subst ho
  subst hst0
  intro H locs ls hW hS hz hl
  refine W.ofRun (va_runI (As := As.map (cv E)) (rest := st.map (cv E)) (b := ad E a) ⟨hx, hb, hml, hown, hts⟩ hM ⟨callB_of np hts (tb_in hy.1) rfl rfl rfl (hts _ hy.2.1) (hts _ hlink) hy.2.2.1 hR, hy1, hts _ hi⟩
    ⟨blindA, fun U hU hWm => ⟨rfl, by rw [hU]; exact hW, hK.at hS hU hWm⟩⟩ rfl (by rw [List.length_map]; exact hnp) hl.1 (by simp [cv_ref]) (by rw [cat_map]; exact lv_room hst) hdg hf) hS (fun v h' H1 locs1 hp hW1 hS1 => ?_)
  rw [cv_toList]
  exact kk v h' hp H1 locs1 ls hW1 hS1 (Wd.szk hW hW1 rfl hz) hl
/-- a constructor of a nest mate -/
theorem aw_callIN (hX : Cx X own bytes ret fr lo mc ms n1 post) (own2 host : String) (ho : own2 = own) (hM : AM X.l y b' nL' none fr' lo' mc' ms' X.E n h (.ref a :: As) post') (hst0 : As.reverse ++ .ref a :: st = st0) (hy : MF y b' nL' none np) (hi : Cond.instanceMethod y ∈ tbG) (hy1 : y.name = "<init>") (hlink : Cond.methodLinkNest own2 ix y host ∈ lw_tbl)
    (hnp : As.length = np) (hR : fr' + 1 ≤ fr ∧ 8 + (nL' + 11) + lo' ≤ lo) (hst : (st.map fun v => v.category).sum ≤ 8) (hdg : decode bytes pc = .ok (.invokespecial ix, 3)) (hf : k + mc' ≤ mc ∧ sl + ms' ≤ ms)
    (kk : ∀ v h', post' v h' → AW X (n + mc') h' (k + mc') (sl + ms') (pc + 3) L (v.toList ++ st)) : AW X n h k sl pc L st0 := by
  obtain ⟨p, l, e, R, s, m, args, below, meth, c, Q, E, nL⟩ := X
  obtain ⟨hx, hb, hml, hown, hts, hK, hlk, hr, rfl, hQ⟩ := hX
  subst ho
  subst hst0
  intro H locs ls hW hS hz hl
  refine W.ofRun (va_runIN (As := As.map (cv E)) (rest := st.map (cv E)) (b := ad E a) ⟨hx, hb, hml, hown, hts⟩ hM ⟨va_cnB np hts (tb_in hy.1) rfl rfl rfl (hK.nest hlink rfl) (hts _ hy.2.1) hy.2.2.1 hR, hy1, hts _ hi⟩
    ⟨blindA, fun U hU hWm => ⟨rfl, by rw [hU]; exact hW, hK.at hS hU hWm⟩⟩ rfl (by rw [List.length_map]; exact hnp) hl.1 (by simp [cv_ref]) (by rw [cat_map]; exact lv_room hst) hdg hf) hS (fun v h' H1 locs1 hp hW1 hS1 => ?_)
  rw [cv_toList]
  exact kk v h' hp H1 locs1 ls hW1 hS1 (Wd.szk hW hW1 rfl hz) hl
/-- Object.<init> -/
theorem aw_obj (hX : Cx X own bytes ret fr lo mc ms n1 post) (own2 : String) (ho : own2 = own) (hlink : Cond.methodLink own2 ix objectInit ∈ tbG) (hi : Cond.instanceMethod objectInit ∈ tbG) (hc : Cond.code objectInit ⟨#[0xb1]⟩ 1 none ∈ tbG) (hR : 1 ≤ fr ∧ 20 ≤ lo) (hst : (st.map fun v => v.category).sum ≤ 8) (hdg : decode bytes pc = .ok (.invokespecial ix, 3))
    (kk : AW X n h k sl (pc + 3) L st) : AW X n h k sl pc L (.ref a :: st) := by
  obtain ⟨p, l, e, R, s, m, args, below, meth, c, Q, E, nL⟩ := X
  obtain ⟨hx, hb, hml, hown, hts, hK, hlk, hr, rfl, hQ⟩ := hX
  subst ho
  intro H locs ls hW hS hz hl
  have hst' := lv_room (m := m) (pc := pc) (ls := ls) (rest := (Value.ref a :: st).map (cv E)) hst
  rw [← cat_map E st] at hst'
  exact W.objInit hx hb hown (hts _ hlink) (hts _ hi) (hts _ hc) rfl (hl.1.trans hml.symm) rfl hdg hR.1 (by have := hR.2; show _ ≤ lo; omega) (kk H locs ls hW hS hz hl)
end ACALL
end
section
/-! rows that make cells, and arraycopy -/
section AALLOC
variable {X : CX} {own : String} {bytes : ByteArray} {ret : Option FieldType} {fr lo mc ms n1 : Nat} {post : Option Value → HP → Prop} {n k sl pc : Nat} {h : HP} {L : List (Option Value)} {st : List Value}
theorem cls_int {E : EV} {s : State} (hK : va_K (eD E) vwCl (tysE E) s) : s.vm.findClass "[I" = some (eC E 0) := (hK.2 0 _ rfl).2
theorem cls_long {E : EV} {s : State} (hK : va_K (eD E) vwCl (tysE E) s) : s.vm.findClass "[J" = some (eC E 3) := (hK.2 3 _ rfl).2
theorem cls_st {E : EV} {s : State} (hK : va_K (eD E) vwCl (tysE E) s) : s.vm.findClass ("[" ++ (FieldType.object RX8).toString) = some (eC E 2) := by
  obtain ⟨kA, comp, -, -, -, h⟩ := (hK.2 2 _ rfl).2
  exact h
theorem last_tys {D : va_G} {cl : List vw_C} {tys : List (ClassId × FieldType)} {x : ClassId × FieldType} {s : State} (h : va_K D cl (tys ++ [x]) s) : ArrOfT s x.1 x.2 ∧ va_RA s x.1 x.2 :=
  h.2 tys.length x (by rw [List.getElem?_append_right (Nat.le_refl _), Nat.sub_self]; rfl)
theorem aw_new (hX : Cx X own bytes ret fr lo mc ms n1 post) (own2 : String) (ho : own2 = own) {C : String} {T : u_T} {N ci ix : Nat} {fs : List Value} (hc : vwCl[ci]? = some (C, T, N)) (hin : ∀ w ∈ u_ws C T N, w ∈ tbG) (ty : Nat → FieldType) (hty : ∀ k, k < N → parseFieldDescriptor (T k).2.2.1 = some (ty k))
    (hcl : Cond.classLink own2 ix C ∈ tbG) (hinst : Cond.instantiable C N ∈ tbG) (hini : Cond.initialized C ∈ tbG) (hfs : ∀ j, j < N → defaultValue (ty j) = vp_V fs j) (hfc : fs.map (cv X.E) = fs) (hcells : k + 1 ≤ mc) (hslots : sl + N ≤ ms) (hdg : decode bytes pc = .ok (.new ix, 3))
    (kk : AW X (n + 1) (hset h n (cO ci fs)) (k + 1) (sl + N) (pc + 3) L (.ref n :: st)) : AW X n h k sl pc L st := by
  obtain ⟨p, l, e, R, s, m, args, below, meth, c, Q, E, nL⟩ := X
  obtain ⟨hx, hb, hml, hown, hts, hK, hlk, hr, rfl, hQ⟩ := hX
  subst ho
  intro H locs ls hW hS hz hl
  obtain ⟨ws, hP, hD, hm, -⟩ := hW.all
  refine va_new hx hb hts hin ty hty hown (hts _ hcl) (hts _ hinst) (hts _ hini) hK.1 hP hD hS (fun q hq => Nat.le_trans hK.2.2.2.2.2 hq) hc (fs := fs) hfs hcells hslots hdg (fun q H1 hP1 hD1 hS1 => W.sz (fun hsz => ?_))
  have e1 : ((q, Sum.inr (ci, fs)) : Nat × va_E) = (q, cc E (cO ci fs)) := by
    show _ = ((q, Sum.inr (ci, fs.map (cv E))) : Nat × va_E)
    rw [show fs.map (cv E) = fs from hfc]
  rw [e1] at hP1 hD1
  obtain ⟨rfl, hW1, hz1⟩ := hW.grow hm hP1 hD1 (by omega)
  exact kk H1 locs ls hW1 hS1 (by omega) hl
theorem aw_newarr (hX : Cx X own bytes ret fr lo mc ms n1 post) {z : Int32} (N : Nat) (hac : Cond.arrayClass .int ∈ tbG) (hn : ¬ z < 0) (hN : z.toNatClampNeg = N) (hb4 : N * 4 ≤ 536870912) (hcells : k + 1 ≤ mc) (hslots : sl + N ≤ ms) (hdg : decode bytes pc = .ok (.newarray .int, 2))
    (kk : AW X (n + 1) (hset h n (cI N (fun _ => 0))) (k + 1) (sl + N) (pc + 2) L (.ref n :: st)) : AW X n h k sl pc L (.int z :: st) := by
  obtain ⟨p, l, e, R, s, m, args, below, meth, c, Q, E, nL⟩ := X
  obtain ⟨hx, hb, hml, hown, hts, hK, hlk, hr, rfl, hQ⟩ := hX
  intro H locs ls hW hS hz hl
  obtain ⟨ws, hP, hD, hm, -⟩ := hW.all
  refine va_newa (atype := .int) (ty := .int) hx hb (hts _ hac) rfl hK.1 hP hD hS (fun q hq => Nat.le_trans hK.2.2.2.2.2 hq) (a0 := (N, .inl (fun _ => 0))) (fun _ => rfl) hn hN hb4 hcells hslots hdg (fun q cA H1 hK1 hP1 hD1 hS1 => W.sz (fun hsz => ?_))
  have hcA : cA = eC E 0 := Option.some.inj ((last_tys hK1).2.symm.trans (cls_int hK.1))
  subst hcA
  obtain ⟨rfl, hW1, hz1⟩ := hW.grow (c := cI N (fun _ => 0)) hm hP1 hD1 (by omega)
  exact kk H1 locs ls hW1 hS1 (by omega) hl
/-- new long[N] -/
theorem aw_newlong (hX : Cx X own bytes ret fr lo mc ms n1 post) {z : Int32} (N : Nat) (hac : Cond.arrayClass .long ∈ tbG) (hn : ¬ z < 0) (hN : z.toNatClampNeg = N) (hb4 : N * 8 ≤ 536870912) (hcells : k + 1 ≤ mc) (hslots : sl + N ≤ ms) (hdg : decode bytes pc = .ok (.newarray .int, 2))
    (kk : AW X (n + 1) (hset h n (cL N (fun _ => 0))) (k + 1) (sl + N) (pc + 2) L (.ref n :: st)) : AW X n h k sl pc L (.int z :: st) := by
  obtain ⟨p, l, e, R, s, m, args, below, meth, c, Q, E, nL⟩ := X
  obtain ⟨hx, hb, hml, hown, hts, hK, hlk, hr, rfl, hQ⟩ := hX
  intro H locs ls hW hS hz hl
  obtain ⟨ws, hP, hD, hm, -⟩ := hW.all
  refine va_newa (atype := .long) (ty := .long) hx hb (hts _ hac) rfl hK.1 hP hD hS (fun q hq => Nat.le_trans hK.2.2.2.2.2 hq) (a0 := (N, .inr (.inl (fun _ => 0)))) (fun _ => rfl) hn hN hb4 hcells hslots hdg (fun q cA H1 hK1 hP1 hD1 hS1 => W.sz (fun hsz => ?_))
  have hcA : cA = eC E 3 := Option.some.inj ((last_tys hK1).2.symm.trans (cls_long hK.1))
  subst hcA
  obtain ⟨rfl, hW1, hz1⟩ := hW.grow (c := cL N (fun _ => 0)) hm hP1 hD1 (by omega)
  exact kk H1 locs ls hW1 hS1 (by omega) hl
/-- new State[N] -/
theorem aw_newst (hX : Cx X own bytes ret fr lo mc ms n1 post) (own2 : String) (ho : own2 = own) {z : Int32} {ix : Nat} (N : Nat) (hcl : Cond.classLink own2 ix RX8 ∈ tbG) (hover : Cond.arrayOver (.object RX8) ∈ lw_tbl) (hn : ¬ z < 0) (hN : z.toNatClampNeg = N) (hb4 : N * 4 ≤ 536870912) (hcells : k + 1 ≤ mc) (hslots : sl + N ≤ ms) (hdg : decode bytes pc = .ok (.anewarray ix, 3))
    (kk : AW X (n + 1) (hset h n (cG 2 N (fun _ => none))) (k + 1) (sl + N) (pc + 3) L (.ref n :: st)) : AW X n h k sl pc L (.int z :: st) := by
  obtain ⟨p, l, e, R, s, m, args, below, meth, c, Q, E, nL⟩ := X
  obtain ⟨hx, hb, hml, hown, hts, hK, hlk, hr, rfl, hQ⟩ := hX
  subst ho
  intro H locs ls hW hS hz hl
  obtain ⟨ws, hP, hD, hm, -⟩ := hW.all
  refine va_newq hx hb hown (hts _ hcl) (hK.2.2.2.2.1 _ hover rfl) hK.1 hP hD hS (fun q hq => Nat.le_trans hK.2.2.2.2.2 hq) hn hN hb4 hcells hslots hdg (fun q cA H1 hK1 hP1 hD1 hS1 => W.sz (fun hsz => ?_))
  have hcA : cA = eC E 2 := by
    obtain ⟨kA, comp, -, -, -, h1⟩ := (last_tys hK1).2
    exact Option.some.inj (h1.symm.trans (cls_st hK.1))
  subst hcA
  obtain ⟨rfl, hW1, hz1⟩ := hW.grow (c := cG 2 N (fun _ => none)) hm hP1 hD1 (by omega)
  exact kk H1 locs ls hW1 hS1 (by omega) hl
/-- a State into an array of them -/
theorem aw_ast (hX : Cx X own bytes ret fr lo mc ms n1 post) {a b N : Nat} {g : Nat → Option Nat} {vs : List Value} {i : Int32} (hh : h a = some (cG 2 N g)) (hv : h b = some (cO 8 vs)) (hin : vp_in i N) (hdg : decode bytes pc = .ok (.aastore, 1))
    (kk : AW X n (hset h a (cG 2 N (va_up g i.toNatClampNeg (some b)))) k sl (pc + 1) L st) : AW X n h k sl pc L (.ref b :: .int i :: .ref a :: st) := by
  obtain ⟨p, l, e, R, s, m, args, below, meth, c, Q, E, nL⟩ := X
  obtain ⟨hx, hb, hml, hown, hts, hK, hlk, hr, rfl, hQ⟩ := hX
  intro H locs ls hW hS hz hl
  obtain ⟨ws, hP, hD, hm, hback⟩ := hW.all
  obtain ⟨q0, hq0⟩ := hm a _ hh
  obtain ⟨qk, hqk⟩ := hm b _ hv
  refine va_astq (r := (RX8, TX8, 4)) hx hb hK.1 hP hD hS q0 2 qk 8 hq0 rfl hqk rfl hin hdg (fun H1 locs1 hP1 hD1 hS1 => W.sz (fun hsz => ?_))
  have e1 : cc E (cG 2 N (va_up g i.toNatClampNeg (some b))) = .inl (eC E 2, N, .inr (.inr (.inr (.inr (va_up (fun i => (g i).map (ad E)) i.toNatClampNeg (some (ad E b))))))) := by
    have : (fun j => (va_up g i.toNatClampNeg (some b) j).map (ad E)) = va_up (fun i => (g i).map (ad E)) i.toNatClampNeg (some (ad E b)) := by
      funext j
      unfold va_up
      split <;> rfl
    show Sum.inl (eC E 2, N, Sum.inr (Sum.inr (Sum.inr (Sum.inr (fun j => (va_up g i.toNatClampNeg (some b) j).map (ad E)))))) = _
    rw [this]
  rw [← e1] at hP1
  obtain ⟨hW1, hz1⟩ := hback a _ q0 hh hq0 _ H1 hP1 (by omega)
  exact kk H1 locs1 ls hW1 hS1 (by omega) hl
/-- System.arraycopy of ints -/
theorem aw_acopy (hX : Cx X own bytes ret fr lo mc ms n1 post) (own2 : String) (ho : own2 = own) {ix a0 a n0 n2 : Nat} {f g : Nat → Int32} {sp dp cnt : Int32} (hlink : Cond.methodLink own2 ix arraycopyName ∈ tbG) (hnat : Cond.native arraycopyName ∈ tbG) (hstat : Cond.static arraycopyName ∈ tbG) (hini : Cond.initialized "java/lang/System" ∈ tbG)
    (hh0 : h a0 = some (cI n0 f)) (hh1 : h a = some (cI n2 g)) (h1 : ¬ sp < 0) (h2 : ¬ dp < 0) (h3 : ¬ cnt < 0) (h4 : sp.toNatClampNeg + cnt.toNatClampNeg ≤ n0) (h5 : dp.toNatClampNeg + cnt.toNatClampNeg ≤ n2) (hR : 1 ≤ fr ∧ 8 + (nativeFrameWords "java/lang/System" "arraycopy" 5 + 11) ≤ lo) (hst : (st.map fun v => v.category).sum ≤ 8) (hdg : decode bytes pc = .ok (.invokestatic ix, 3))
    (kk : AW X n (hset h a (cI n2 (va_cpy f g sp.toNatClampNeg dp.toNatClampNeg cnt.toNatClampNeg))) k sl (pc + 3) L st) : AW X n h k sl pc L (.int cnt :: .int dp :: .ref a :: .int sp :: .ref a0 :: st) := by
  obtain ⟨p, l, e, R, s, m, args, below, meth, c, Q, E, nL⟩ := X
  obtain ⟨hx, hb, hml, hown, hts, hK, hlk, hr, rfl, hQ⟩ := hX
  subst ho
  intro H locs ls hW hS hz hl
  obtain ⟨ws, hP, hD, hm, hback⟩ := hW.all
  obtain ⟨q0, hq0⟩ := hm a0 _ hh0
  obtain ⟨q1, hq1⟩ := hm a _ hh1
  refine va_copyi hx hb (hml.trans hl.1.symm) hown (hts _ hlink) (hts _ hnat) (hts _ hstat) (hts _ hini) hK.1 hP hD hS q0 q1 0 0 hq0 hq1 rfl rfl rfl h1 h2 h3 h4 h5 (fun _ _ => rfl) hR.1 (by rw [cat_map]; have := hR.2; show _ ≤ lo; omega) hdg (fun H1 locs1 hP1 hD1 hS1 => W.sz (fun hsz => ?_))
  obtain ⟨hW1, hz1⟩ := hback a _ q1 hh1 hq1 (cI n2 (va_cpy f g sp.toNatClampNeg dp.toNatClampNeg cnt.toNatClampNeg)) H1 hP1 (by omega)
  exact kk H1 locs1 ls hW1 hS1 (by omega) hl
/-- FIRST_NUMBERS.clone() -/
theorem aw_clone0 (hX : Cx X own bytes ret fr lo mc ms n1 post) (own2 : String) (ho : own2 = own) {ix : Nat} (hlink : Cond.methodLink own2 ix ⟨"[I", "clone", "()Ljava/lang/Object;"⟩ ∈ tbG) (hsame : Cond.sameMethod "[I" "java/lang/Object" "clone" "()Ljava/lang/Object;" ∈ tbG)
    (hnat : Cond.native ⟨"java/lang/Object", "clone", "()Ljava/lang/Object;"⟩ ∈ tbG) (hinst : Cond.instanceMethod ⟨"java/lang/Object", "clone", "()Ljava/lang/Object;"⟩ ∈ tbG) (hsel : Cond.selects "[I" ⟨"[I", "clone", "()Ljava/lang/Object;"⟩ ⟨"java/lang/Object", "clone", "()Ljava/lang/Object;"⟩ ∈ tbG) (hcs : Cond.castable "[I" "java/lang/Cloneable" ∈ lw_tbl)
    (hR : 1 ≤ fr ∧ 22 ≤ lo) (hst : (st.map fun v => v.category).sum ≤ 8) (hcells : k + 1 ≤ mc) (hslots : sl + 3 ≤ ms) (hdg : decode bytes pc = .ok (.invokevirtual ix, 3))
    (kk : AW X (n + 1) (hset h n (cI 3 (eF X.E 0))) (k + 1) (sl + 3) (pc + 3) L (.ref n :: st)) : AW X n h k sl pc L (.ref 0 :: st) := by
  obtain ⟨p, l, e, R, s, m, args, below, meth, c, Q, E, nL⟩ := X
  obtain ⟨hx, hb, hml, hown, hts, hK, hlk, hr, rfl, hQ⟩ := hX
  subst ho
  intro H locs ls hW hS hz hl
  obtain ⟨ws, hP, hD, hm, -⟩ := hW.all
  have h0 : ¬ eA E (eT E 0) := (hK.2.2.1 0 (by decide)).choose_spec.2.2.2.2.2.2
  obtain ⟨cell, g1, g2, g3, g4⟩ := hK.2.2.2.1
  have hc0 : H[eT E 0]? = some cell := by
    rw [hS.2.1 _ (Array.getElem?_eq_some_iff.mp g1).1 h0]
    exact g1
  have gc : cell.cls = eC E 0 := show cell.cls = (vp_cell (eC E 0) (3, .inl (eF E 0))).cls by rw [← g4]
  have gs : cell.slots = (vp_cell (eC E 0) (3, .inl (eF E 0))).slots := by rw [← g4]
  have gz : cell.slots.size = 3 := by rw [gs]; exact arrV_size _ _ _
  obtain ⟨c0, t0', f1, f2, f3⟩ := Cond.castable_spec (va_Nw.use (A := args) rfl (hK.2.2.2.2.1 _ hcs rfl))
  have hnm : s.vm.findClass "[I" = some (eC E 0) := cls_int hK.1
  cases hnm.symm.trans f1
  have ht0 : (tysE E)[0]? = some (eC E 0, FieldType.int) := rfl
  have ea : cv E (.ref 0) = .ref (eT E 0) := rfl
  show W p l e _ s m args below meth c H locs k sl Q (F0 m pc ls (cv E (.ref 0) :: st.map (cv E)))
  rw [ea]
  intro T hT X
  obtain ⟨-, kA, hkA, comp, hkind⟩ := State.isArrayOf_alike X.warmed.alike ((hK.1.2 0 _ ht0).1 0 (fun _ => .null))
  obtain ⟨-, kS, hkS, compS, hkindS⟩ := (hK.1.2 0 _ ht0).1 0 (fun _ => .null)
  obtain ⟨vm', X', st'⟩ := X.cloneArray hx hown (hts _ hlink) (hts _ hsame) (hts _ hnat) (hts _ hinst) (hts _ hsel) (a := eT E 0) (cell := cell) (by rw [hT]; exact hc0) (fun k h => by rw [h] at g3; cases g3) g2 (by rw [gc]; exact hnm) f2 (by rw [gc]; exact f3)
    (fun i v hv => by
      have hi : i < 3 := by
        have := (Array.getElem?_eq_some_iff.mp hv).1
        omega
      rw [gs, show (vp_cell (eC E 0) (3, .inl (eF E 0))).slots[i]? = some (.int (eF E 0 i)) from arrV_read _ _ hi] at hv
      cases hv
      rw [gc]
      have hk' : T.vm.classes[eC E 0]? = some kA := hkA
      simpa [State.fitsSlot, State.slotType?, hk', hkind] using (show fits .int (.int (eF E 0 i)) = true from rfl))
    (g := F0 m pc ls (.ref (eT E 0) :: st.map (cv E))) rfl (by rw [hml]; exact hl.1) rfl (by rw [hb]; exact hdg) hR.1 (by show 2 * 0 + ((st.map (cv E)).map fun v => v.category).sum + 14 ≤ lo; rw [cat_map]; have := hR.2; omega) hcells (by rw [gz]; exact hslots) (hloader := by rw [gc]; exact Vm.clonesLoader_of_array hkS hkindS)
  rw [g4, gz] at X'
  generalize hH1 : H.push (vp_cell (eC E 0) (3, .inl (eF E 0))) = H1
  have z1 : H1.size = H.size + 1 := by rw [← hH1, Array.size_push]
  have e1 : H1[H.size]? = some (vp_cell (eC E 0) (3, .inl (eF E 0))) := by rw [← hH1, Array.getElem?_push_size]
  have o1 : ∀ q : Nat, q < H.size → H1[q]? = H[q]? := fun q hq => by rw [← hH1, Array.getElem?_push, if_neg (Nat.ne_of_lt hq)]
  have hk : ∀ (k : Nat) (y : Nat × va_E), ws[k]? = some y → H1[y.1]? = H[y.1]? := fun k y hy => o1 y.1 ((hP k y hy).lt)
  have hP1 : va_P (eD E) vwCl (ws ++ [(H.size, cc E (cI 3 (eF E 0)))]) H1 := (hP.kept hk).app (fun k y hy => by
    have hz : k < 1 := (List.getElem?_eq_some_iff.mp hy).1
    rw [show k = 0 by omega] at hy
    cases hy
    exact e1)
  have hD1 : va_D (eA E) (ws ++ [(H.size, cc E (cI 3 (eF E 0)))]) := hD.push hP rfl (Nat.le_trans hK.2.2.2.2.2 hS.1)
  have hS1 : va_S (eA E) s.heap H1 locs := ⟨Nat.le_trans hS.1 (by omega), fun y h1 h2 => (o1 y (Nat.lt_of_lt_of_le h1 hS.1)).trans (hS.2.1 y h1 h2), hS.2.2⟩
  obtain ⟨he, hW1, hz1⟩ := hW.grow hm hP1 hD1 (by omega)
  obtain ⟨t, b1, b2⟩ := kk H1 locs ls hW1 hS1 (by omega) hl ((T.setVm vm').pushCell (vp_cell (eC E 0) (3, .inl (eF E 0)))) (by rw [← hH1, ← hT]; rfl) X'
  refine ⟨t, st' t ?_, b2⟩
  rw [g4, hT, he]
  exact b1
/-- a cast of an array of ints to its own class -/
theorem aw_castI (hX : Cx X own bytes ret fr lo mc ms n1 post) (own2 : String) (ho : own2 = own) {ix a N : Nat} {f : Nat → Int32} (hlink : Cond.classLink own2 ix "[I" ∈ tbG) (hh : h a = some (cI N f)) (hdg : decode bytes pc = .ok (.checkcast ix, 3))
    (kk : AW X n h k sl (pc + 3) L (.ref a :: st)) : AW X n h k sl pc L (.ref a :: st) := by
  obtain ⟨p, l, e, R, s, m, args, below, meth, c, Q, E, nL⟩ := X
  obtain ⟨hx, hb, hml, hown, hts, hK, hlk, hr, rfl, hQ⟩ := hX
  subst ho
  intro H locs ls hW hS hz hl
  obtain ⟨ws, q0, hP, hD, hq, -⟩ := Wd.list hW hh
  exact va_castA hx hb hown (hts _ hlink) hP q0 hq (cls_int hK.1) hdg (kk H locs ls hW hS hz hl)
end AALLOC
end
section
/-! new int[N][K] -/
def hmna (h : HP) (n N K : Nat) : HP := fun q => if q = n then some (cG 1 N (fun i => if i < N then some (n + 1 + i) else none)) else if n < q ∧ q ≤ n + N then some (cI K (fun _ => 0)) else h q
theorem mna_outer (c : ClassId) (N h0 : Nat) : ∀ i : Nat, Jvm.Free.Multi.outerC c N h0 i = arrV c N (fun j => va_rf (if j < i then some (h0 + 1 + j) else none))
  | 0 => by
    show ({ cls := c, slots := Array.replicate N .null, vm := .none } : Cell) = _
    rw [arrV_new]
    refine congrArg (arrV c N) (funext fun j => ?_)
    simp [va_rf]
  | i + 1 => by
    show (Jvm.Free.Multi.outerC c N h0 i).setSlot i (.ref (h0 + 1 + i)) = _
    rw [mna_outer c N h0 i, arrV_store]
    refine congrArg (arrV c N) (funext fun j => ?_)
    by_cases e : j = i
    · subst e
      simp [updV, va_rf]
    · by_cases h : j < i
      · simp [updV, e, h, Nat.lt_succ_of_lt h]
      · simp [updV, e, h, show ¬ j < i + 1 by omega]
theorem aw_mna {X : CX} {own : String} {bytes : ByteArray} {ret : Option FieldType} {fr lo mc ms n1 : Nat} {post : Option Value → HP → Prop} {n k sl pc : Nat} {h : HP} {L : List (Option Value)} {st : List Value} (hX : Cx X own bytes ret fr lo mc ms n1 post) (own2 : String) (ho : own2 = own) {ix : Nat} {z y : Int32} (N K : Nat) (hcl : Cond.classLink own2 ix "[[I" ∈ tbG) (hover : Cond.arrayOver (.array .int) ∈ lw_tbl) (hac : Cond.arrayClass .int ∈ tbG)
    (hn : ¬ z < 0) (hy : ¬ y < 0) (hN : z.toNatClampNeg = N) (hK' : y.toNatClampNeg = K) (hb1 : N * 4 ≤ 536870912) (hb2 : K * 4 ≤ 536870912) (hcells : k + (1 + N) ≤ mc) (hslots : sl + (N + N * K) ≤ ms) (hdg : decode bytes pc = .ok (.multianewarray ix 2, 4))
    (kk : AW X (n + 1 + N) (hmna h n N K) (k + 1 + N) (sl + N + N * K) (pc + 4) L (.ref n :: st)) : AW X n h k sl pc L (.int y :: .int z :: st) := by
  obtain ⟨p, l, e, R, s, m, args, below, meth, c, Q, E, nL⟩ := X
  obtain ⟨hx, hb, hml, hown, hts, hK, hlk, hr, rfl, hQ⟩ := hX
  subst ho
  subst hN
  subst hK'
  intro H locs ls hW hS hz hl T hT Xs
  obtain ⟨vm₁, cA, comp, -, fA, fC, hO, -, X', step⟩ := Xs.multianewarray2F (ty := .int) hx hown (hts _ hcl) (hK.nest hover rfl) (hts _ hac) (g := F0 m pc ls (.int y :: .int z :: st.map (cv E))) rfl (by rw [hb]; exact hdg) rfl hn hy hb1 hb2 (by omega) rfl rfl hcells hslots
  have ec : eC E 0 = comp := Option.some.inj ((cls_int hK.1).symm.trans fC)
  have eA1 : eC E 1 = cA := Option.some.inj ((show s.vm.findClass "[[I" = some (eC E 1) from (hK.1.2 1 _ rfl).2).symm.trans fA)
  subst ec
  subst eA1
  generalize hF : Jvm.Free.Multi.fill (T.setVm vm₁) (eC E 1) (eC E 0) z.toNatClampNeg y.toNatClampNeg (defaultValue .int) z.toNatClampNeg = F at X' step
  have hTh : (T.setVm vm₁).heap = H := hT
  obtain ⟨f1, f2, -, -⟩ := Jvm.Free.Multi.fill_facts (T.setVm vm₁) (eC E 1) (eC E 0) z.toNatClampNeg y.toNatClampNeg (defaultValue .int) z.toNatClampNeg
  rw [hF, hTh] at f1 f2
  have hold : ∀ x : Nat, x < H.size → F.heap[x]? = H[x]? := fun x hx => by
    have := Jvm.Free.Multi.fill_old (T.setVm vm₁) (eC E 1) (eC E 0) z.toNatClampNeg y.toNatClampNeg (defaultValue .int) (a := x) (by rw [hTh]; exact hx) z.toNatClampNeg
    rw [hF, hTh] at this
    exact this
  have hrow : ∀ j : Nat, j < z.toNatClampNeg → F.heap[H.size + 1 + j]? = some (vp_cell (eC E 0) (y.toNatClampNeg, .inl (fun _ => 0))) := fun j hj => by
    have := Jvm.Free.Multi.fill_inner (T.setVm vm₁) (eC E 1) (eC E 0) z.toNatClampNeg y.toNatClampNeg (defaultValue .int) z.toNatClampNeg j hj
    rw [hF, hTh] at this
    rw [this, vp_cell_i]
    exact congrArg some (arrV_new _ _ _)
  rw [mna_outer] at f2
  obtain ⟨h5, hzz, hc, hf⟩ := hW
  have eH : H.size = ad E n := by rw [ad_in h5]; exact hzz
  have hW1 : Wd E (n + 1 + z.toNatClampNeg) (hmna h n z.toNatClampNeg y.toNatClampNeg) F.heap := by
    refine ⟨by omega, by rw [f1]; omega, fun p c1 hp => ?_, fun p g1 g2 => ?_⟩
    · unfold hmna at hp
      split at hp
      · rename_i e1
        cases hp
        subst e1
        refine ⟨h5, by omega, ?_⟩
        show F.heap[ad E p]? = some (vp_cell _ _)
        rw [← eH, f2, vp_cell_q]
        refine congrArg some (congrArg (arrV _ _) (funext fun j => ?_))
        by_cases hj : j < z.toNatClampNeg
        · simp only [hj, if_true, Option.map_some]
          rw [ad_in (by omega), eH, ad_in h5]
          congr 2
          omega
        · simp [hj]
      · split at hp
        · rename_i e1 e2
          cases hp
          refine ⟨by omega, by omega, ?_⟩
          show F.heap[ad E p]? = some (vp_cell _ _)
          have := hrow (p - n - 1) (by omega)
          rw [show ad E p = H.size + 1 + (p - n - 1) by rw [eH, ad_in h5, ad_in (by omega)]; omega]
          exact this
        · obtain ⟨g1, g2, g3⟩ := hc p c1 hp
          exact ⟨g1, by omega, g3.kept (hold _ (cc_at_lt g3))⟩
    · unfold hmna
      split
      · rfl
      · split
        · rfl
        · exact hf p g1 (by omega)
  have hS1 : va_S (eA E) s.heap F.heap locs := ⟨by rw [f1]; exact Nat.le_trans hS.1 (by omega), fun q g1 g2 => (hold q (Nat.lt_of_lt_of_le g1 hS.1)).trans (hS.2.1 q g1 g2), hS.2.2⟩
  obtain ⟨t, a1, b1⟩ := kk F.heap locs ls hW1 hS1 (by rw [f1]; omega) hl F rfl X'
  refine ⟨t, step t ?_, b1⟩
  have e2 : T.heap.size = H.size := by rw [hT]
  rw [e2, eH]
  exact a1
end
section
theorem tb_at {w : Cond} (i : Nat) (h : lw_tbl[i]? = some w) (g : goodWord w = true) : w ∈ tbG := List.mem_filter.mpr ⟨List.mem_of_getElem? h, g⟩
theorem in_X0 : ∀ w ∈ u_ws RX0 TX0 6, w ∈ tbG := by
  show ∀ w ∈ [u_lay RX0 TX0 0, u_lay RX0 TX0 1, u_lay RX0 TX0 2, u_lay RX0 TX0 3, u_lay RX0 TX0 4, u_lay RX0 TX0 5], w ∈ tbG
  exact List.forall_mem_cons.mpr ⟨tb_at 52 (by decide +kernel) (by decide +kernel), List.forall_mem_cons.mpr ⟨tb_at 54 (by decide +kernel) (by decide +kernel), List.forall_mem_cons.mpr ⟨tb_at 56 (by decide +kernel) (by decide +kernel), List.forall_mem_cons.mpr ⟨tb_at 58 (by decide +kernel) (by decide +kernel), List.forall_mem_cons.mpr ⟨tb_at 60 (by decide +kernel) (by decide +kernel), List.forall_mem_cons.mpr ⟨tb_at 62 (by decide +kernel) (by decide +kernel), fun _ h => absurd h List.not_mem_nil⟩⟩⟩⟩⟩⟩
theorem in_X1 : ∀ w ∈ u_ws RX1 TX1 1, w ∈ tbG := by
  show ∀ w ∈ [u_lay RX1 TX1 0], w ∈ tbG
  exact List.forall_mem_cons.mpr ⟨tb_at 189 (by decide +kernel) (by decide +kernel), fun _ h => absurd h List.not_mem_nil⟩
theorem in_X2 : ∀ w ∈ u_ws RX2 TX2 3, w ∈ tbG := by
  show ∀ w ∈ [u_lay RX2 TX2 0, u_lay RX2 TX2 1, u_lay RX2 TX2 2], w ∈ tbG
  exact List.forall_mem_cons.mpr ⟨tb_at 161 (by decide +kernel) (by decide +kernel), List.forall_mem_cons.mpr ⟨tb_at 163 (by decide +kernel) (by decide +kernel), List.forall_mem_cons.mpr ⟨tb_at 165 (by decide +kernel) (by decide +kernel), fun _ h => absurd h List.not_mem_nil⟩⟩⟩
theorem in_X3 : ∀ w ∈ u_ws RX3 TX3 5, w ∈ tbG := by
  show ∀ w ∈ [u_lay RX3 TX3 0, u_lay RX3 TX3 1, u_lay RX3 TX3 2, u_lay RX3 TX3 3, u_lay RX3 TX3 4], w ∈ tbG
  exact List.forall_mem_cons.mpr ⟨tb_at 83 (by decide +kernel) (by decide +kernel), List.forall_mem_cons.mpr ⟨tb_at 85 (by decide +kernel) (by decide +kernel), List.forall_mem_cons.mpr ⟨tb_at 87 (by decide +kernel) (by decide +kernel), List.forall_mem_cons.mpr ⟨tb_at 89 (by decide +kernel) (by decide +kernel), List.forall_mem_cons.mpr ⟨tb_at 91 (by decide +kernel) (by decide +kernel), fun _ h => absurd h List.not_mem_nil⟩⟩⟩⟩⟩
theorem in_X4 : ∀ w ∈ u_ws RX4 TX4 5, w ∈ tbG := by
  show ∀ w ∈ [u_lay RX4 TX4 0, u_lay RX4 TX4 1, u_lay RX4 TX4 2, u_lay RX4 TX4 3, u_lay RX4 TX4 4], w ∈ tbG
  exact List.forall_mem_cons.mpr ⟨tb_at 229 (by decide +kernel) (by decide +kernel), List.forall_mem_cons.mpr ⟨tb_at 231 (by decide +kernel) (by decide +kernel), List.forall_mem_cons.mpr ⟨tb_at 233 (by decide +kernel) (by decide +kernel), List.forall_mem_cons.mpr ⟨tb_at 235 (by decide +kernel) (by decide +kernel), List.forall_mem_cons.mpr ⟨tb_at 237 (by decide +kernel) (by decide +kernel), fun _ h => absurd h List.not_mem_nil⟩⟩⟩⟩⟩
theorem in_X5 : ∀ w ∈ u_ws RX5 TX5 2, w ∈ tbG := by
  show ∀ w ∈ [u_lay RX5 TX5 0, u_lay RX5 TX5 1], w ∈ tbG
  exact List.forall_mem_cons.mpr ⟨tb_at 177 (by decide +kernel) (by decide +kernel), List.forall_mem_cons.mpr ⟨tb_at 179 (by decide +kernel) (by decide +kernel), fun _ h => absurd h List.not_mem_nil⟩⟩
theorem in_X6 : ∀ w ∈ u_ws RX6 TX6 5, w ∈ tbG := by
  show ∀ w ∈ [u_lay RX6 TX6 0, u_lay RX6 TX6 1, u_lay RX6 TX6 2, u_lay RX6 TX6 3, u_lay RX6 TX6 4], w ∈ tbG
  exact List.forall_mem_cons.mpr ⟨tb_at 205 (by decide +kernel) (by decide +kernel), List.forall_mem_cons.mpr ⟨tb_at 207 (by decide +kernel) (by decide +kernel), List.forall_mem_cons.mpr ⟨tb_at 209 (by decide +kernel) (by decide +kernel), List.forall_mem_cons.mpr ⟨tb_at 211 (by decide +kernel) (by decide +kernel), List.forall_mem_cons.mpr ⟨tb_at 213 (by decide +kernel) (by decide +kernel), fun _ h => absurd h List.not_mem_nil⟩⟩⟩⟩⟩
theorem in_X7 : ∀ w ∈ u_ws RX7 TX7 5, w ∈ tbG := by
  show ∀ w ∈ [u_lay RX7 TX7 0, u_lay RX7 TX7 1, u_lay RX7 TX7 2, u_lay RX7 TX7 3, u_lay RX7 TX7 4], w ∈ tbG
  exact List.forall_mem_cons.mpr ⟨tb_at 106 (by decide +kernel) (by decide +kernel), List.forall_mem_cons.mpr ⟨tb_at 108 (by decide +kernel) (by decide +kernel), List.forall_mem_cons.mpr ⟨tb_at 110 (by decide +kernel) (by decide +kernel), List.forall_mem_cons.mpr ⟨tb_at 112 (by decide +kernel) (by decide +kernel), List.forall_mem_cons.mpr ⟨tb_at 114 (by decide +kernel) (by decide +kernel), fun _ h => absurd h List.not_mem_nil⟩⟩⟩⟩⟩
theorem in_X8 : ∀ w ∈ u_ws RX8 TX8 4, w ∈ tbG := by
  show ∀ w ∈ [u_lay RX8 TX8 0, u_lay RX8 TX8 1, u_lay RX8 TX8 2, u_lay RX8 TX8 3], w ∈ tbG
  exact List.forall_mem_cons.mpr ⟨tb_at 139 (by decide +kernel) (by decide +kernel), List.forall_mem_cons.mpr ⟨tb_at 141 (by decide +kernel) (by decide +kernel), List.forall_mem_cons.mpr ⟨tb_at 143 (by decide +kernel) (by decide +kernel), List.forall_mem_cons.mpr ⟨tb_at 145 (by decide +kernel) (by decide +kernel), fun _ h => absurd h List.not_mem_nil⟩⟩⟩⟩
theorem in_X9 : ∀ w ∈ u_ws RX9 TX9 9, w ∈ tbG := by
  show ∀ w ∈ [u_lay RX9 TX9 0, u_lay RX9 TX9 1, u_lay RX9 TX9 2, u_lay RX9 TX9 3, u_lay RX9 TX9 4, u_lay RX9 TX9 5, u_lay RX9 TX9 6, u_lay RX9 TX9 7, u_lay RX9 TX9 8], w ∈ tbG
  exact List.forall_mem_cons.mpr ⟨tb_at 249 (by decide +kernel) (by decide +kernel), List.forall_mem_cons.mpr ⟨tb_at 251 (by decide +kernel) (by decide +kernel), List.forall_mem_cons.mpr ⟨tb_at 253 (by decide +kernel) (by decide +kernel), List.forall_mem_cons.mpr ⟨tb_at 255 (by decide +kernel) (by decide +kernel), List.forall_mem_cons.mpr ⟨tb_at 257 (by decide +kernel) (by decide +kernel), List.forall_mem_cons.mpr ⟨tb_at 259 (by decide +kernel) (by decide +kernel), List.forall_mem_cons.mpr ⟨tb_at 261 (by decide +kernel) (by decide +kernel), List.forall_mem_cons.mpr ⟨tb_at 263 (by decide +kernel) (by decide +kernel), List.forall_mem_cons.mpr ⟨tb_at 265 (by decide +kernel) (by decide +kernel), fun _ h => absurd h List.not_mem_nil⟩⟩⟩⟩⟩⟩⟩⟩⟩
theorem kf_X0_9 : Cond.fieldLink RX0 9 (TX0 0).1 (TX0 0).2.1 (TX0 0).2.2.1 ∈ tbG := tb_at 39 (by decide +kernel) (by decide +kernel)
theorem gt_X0_9 {X : CX} {bytes : ByteArray} {ret : Option FieldType} {fr lo mc ms n1 : Nat} {post : Option Value → HP → Prop} {n k sl pc : Nat} {h : HP} {L : List (Option Value)} {st : List Value} (hX : Cx X RX0 bytes ret fr lo mc ms n1 post) {a : Nat} {fs : List Value} {v : Value} (hdg : decode bytes pc = .ok (.getfield 9, 3)) (hh : h a = some (cO 0 fs)) (hv : fs[0]? = some v) (kk : AW X n h k sl (pc + 3) L (v :: st)) : AW X n h k sl pc L (.ref a :: st) := aw_get hX 0 rfl (C := RX0) (T := TX0) (N := 6) rfl in_X0 kf_X0_9 (by decide) hh hv hdg kk
theorem pt_X0_9 {X : CX} {bytes : ByteArray} {ret : Option FieldType} {fr lo mc ms n1 : Nat} {post : Option Value → HP → Prop} {n k sl pc : Nat} {h : HP} {L : List (Option Value)} {st : List Value} (hX : Cx X RX0 bytes ret fr lo mc ms n1 post) {a : Nat} {fs : List Value} {v : Int32} (hdg : decode bytes pc = .ok (.putfield 9, 3)) (hh : h a = some (cO 0 fs)) (hlen : 0 < fs.length) (kk : AW X n (hset h a (cO 0 (fs.set 0 (.int v)))) k sl (pc + 3) L st) : AW X n h k sl pc L (.int v :: .ref a :: st) := aw_put hX 0 rfl (C := RX0) (T := TX0) (N := 6) (ty := .int) rfl in_X0 tyX0 tyX0_ok nmX0 kf_X0_9 (by decide) rfl (by decide +kernel) rfl rfl hh hlen hdg kk
theorem kf_X5_24 : Cond.fieldLink RX5 24 (TX0 0).1 (TX0 0).2.1 (TX0 0).2.2.1 ∈ tbG := tb_at 40 (by decide +kernel) (by decide +kernel)
theorem gt_X5_24 {X : CX} {bytes : ByteArray} {ret : Option FieldType} {fr lo mc ms n1 : Nat} {post : Option Value → HP → Prop} {n k sl pc : Nat} {h : HP} {L : List (Option Value)} {st : List Value} (hX : Cx X RX5 bytes ret fr lo mc ms n1 post) {a : Nat} {fs : List Value} {v : Value} (hdg : decode bytes pc = .ok (.getfield 24, 3)) (hh : h a = some (cO 0 fs)) (hv : fs[0]? = some v) (kk : AW X n h k sl (pc + 3) L (v :: st)) : AW X n h k sl pc L (.ref a :: st) := aw_get hX 0 rfl (C := RX0) (T := TX0) (N := 6) rfl in_X0 kf_X5_24 (by decide) hh hv hdg kk
theorem pt_X5_24 {X : CX} {bytes : ByteArray} {ret : Option FieldType} {fr lo mc ms n1 : Nat} {post : Option Value → HP → Prop} {n k sl pc : Nat} {h : HP} {L : List (Option Value)} {st : List Value} (hX : Cx X RX5 bytes ret fr lo mc ms n1 post) {a : Nat} {fs : List Value} {v : Int32} (hdg : decode bytes pc = .ok (.putfield 24, 3)) (hh : h a = some (cO 0 fs)) (hlen : 0 < fs.length) (kk : AW X n (hset h a (cO 0 (fs.set 0 (.int v)))) k sl (pc + 3) L st) : AW X n h k sl pc L (.int v :: .ref a :: st) := aw_put hX 0 rfl (C := RX0) (T := TX0) (N := 6) (ty := .int) rfl in_X0 tyX0 tyX0_ok nmX0 kf_X5_24 (by decide) rfl (by decide +kernel) rfl rfl hh hlen hdg kk
theorem kf_X9_70 : Cond.fieldLink RX9 70 (TX0 0).1 (TX0 0).2.1 (TX0 0).2.2.1 ∈ tbG := tb_at 41 (by decide +kernel) (by decide +kernel)
theorem gt_X9_70 {X : CX} {bytes : ByteArray} {ret : Option FieldType} {fr lo mc ms n1 : Nat} {post : Option Value → HP → Prop} {n k sl pc : Nat} {h : HP} {L : List (Option Value)} {st : List Value} (hX : Cx X RX9 bytes ret fr lo mc ms n1 post) {a : Nat} {fs : List Value} {v : Value} (hdg : decode bytes pc = .ok (.getfield 70, 3)) (hh : h a = some (cO 0 fs)) (hv : fs[0]? = some v) (kk : AW X n h k sl (pc + 3) L (v :: st)) : AW X n h k sl pc L (.ref a :: st) := aw_get hX 0 rfl (C := RX0) (T := TX0) (N := 6) rfl in_X0 kf_X9_70 (by decide) hh hv hdg kk
theorem pt_X9_70 {X : CX} {bytes : ByteArray} {ret : Option FieldType} {fr lo mc ms n1 : Nat} {post : Option Value → HP → Prop} {n k sl pc : Nat} {h : HP} {L : List (Option Value)} {st : List Value} (hX : Cx X RX9 bytes ret fr lo mc ms n1 post) {a : Nat} {fs : List Value} {v : Int32} (hdg : decode bytes pc = .ok (.putfield 70, 3)) (hh : h a = some (cO 0 fs)) (hlen : 0 < fs.length) (kk : AW X n (hset h a (cO 0 (fs.set 0 (.int v)))) k sl (pc + 3) L st) : AW X n h k sl pc L (.int v :: .ref a :: st) := aw_put hX 0 rfl (C := RX0) (T := TX0) (N := 6) (ty := .int) rfl in_X0 tyX0 tyX0_ok nmX0 kf_X9_70 (by decide) rfl (by decide +kernel) rfl rfl hh hlen hdg kk
theorem kf_X0_15 : Cond.fieldLink RX0 15 (TX0 1).1 (TX0 1).2.1 (TX0 1).2.2.1 ∈ tbG := tb_at 42 (by decide +kernel) (by decide +kernel)
theorem gt_X0_15 {X : CX} {bytes : ByteArray} {ret : Option FieldType} {fr lo mc ms n1 : Nat} {post : Option Value → HP → Prop} {n k sl pc : Nat} {h : HP} {L : List (Option Value)} {st : List Value} (hX : Cx X RX0 bytes ret fr lo mc ms n1 post) {a : Nat} {fs : List Value} {v : Value} (hdg : decode bytes pc = .ok (.getfield 15, 3)) (hh : h a = some (cO 0 fs)) (hv : fs[1]? = some v) (kk : AW X n h k sl (pc + 3) L (v :: st)) : AW X n h k sl pc L (.ref a :: st) := aw_get hX 1 rfl (C := RX0) (T := TX0) (N := 6) rfl in_X0 kf_X0_15 (by decide) hh hv hdg kk
theorem pf_X0_15 {X : CX} {bytes : ByteArray} {ret : Option FieldType} {fr lo mc ms n1 : Nat} {post : Option Value → HP → Prop} {n k sl pc : Nat} {h : HP} {L : List (Option Value)} {st : List Value} (hX : Cx X RX0 bytes ret fr lo mc ms n1 post) (hini : X.2.2.2.2.2.2.2.2.1.name = "<init>") {a b : Nat} {fs : List Value} (hdg : decode bytes pc = .ok (.putfield 15, 3)) (hh : h a = some (cO 0 fs)) (hlen : 1 < fs.length) (kk : AW X n (hset h a (cO 0 (fs.set 1 (.ref b)))) k sl (pc + 3) L st) : AW X n h k sl pc L (.ref b :: .ref a :: st) := aw_putF hX 1 rfl (C := RX0) (T := TX0) (N := 6) (ty := .array .int) (v := .ref b) rfl in_X0 tyX0 tyX0_ok nmX0 kf_X0_15 (by decide) rfl hini rfl (by decide +kernel) rfl rfl hh hlen hdg kk
theorem kf_X5_62 : Cond.fieldLink RX5 62 (TX0 1).1 (TX0 1).2.1 (TX0 1).2.2.1 ∈ tbG := tb_at 43 (by decide +kernel) (by decide +kernel)
theorem gt_X5_62 {X : CX} {bytes : ByteArray} {ret : Option FieldType} {fr lo mc ms n1 : Nat} {post : Option Value → HP → Prop} {n k sl pc : Nat} {h : HP} {L : List (Option Value)} {st : List Value} (hX : Cx X RX5 bytes ret fr lo mc ms n1 post) {a : Nat} {fs : List Value} {v : Value} (hdg : decode bytes pc = .ok (.getfield 62, 3)) (hh : h a = some (cO 0 fs)) (hv : fs[1]? = some v) (kk : AW X n h k sl (pc + 3) L (v :: st)) : AW X n h k sl pc L (.ref a :: st) := aw_get hX 1 rfl (C := RX0) (T := TX0) (N := 6) rfl in_X0 kf_X5_62 (by decide) hh hv hdg kk
theorem kf_X9_212 : Cond.fieldLink RX9 212 (TX0 1).1 (TX0 1).2.1 (TX0 1).2.2.1 ∈ tbG := tb_at 44 (by decide +kernel) (by decide +kernel)
theorem gt_X9_212 {X : CX} {bytes : ByteArray} {ret : Option FieldType} {fr lo mc ms n1 : Nat} {post : Option Value → HP → Prop} {n k sl pc : Nat} {h : HP} {L : List (Option Value)} {st : List Value} (hX : Cx X RX9 bytes ret fr lo mc ms n1 post) {a : Nat} {fs : List Value} {v : Value} (hdg : decode bytes pc = .ok (.getfield 212, 3)) (hh : h a = some (cO 0 fs)) (hv : fs[1]? = some v) (kk : AW X n h k sl (pc + 3) L (v :: st)) : AW X n h k sl pc L (.ref a :: st) := aw_get hX 1 rfl (C := RX0) (T := TX0) (N := 6) rfl in_X0 kf_X9_212 (by decide) hh hv hdg kk
theorem kf_X0_19 : Cond.fieldLink RX0 19 (TX0 2).1 (TX0 2).2.1 (TX0 2).2.2.1 ∈ tbG := tb_at 45 (by decide +kernel) (by decide +kernel)
theorem gt_X0_19 {X : CX} {bytes : ByteArray} {ret : Option FieldType} {fr lo mc ms n1 : Nat} {post : Option Value → HP → Prop} {n k sl pc : Nat} {h : HP} {L : List (Option Value)} {st : List Value} (hX : Cx X RX0 bytes ret fr lo mc ms n1 post) {a : Nat} {fs : List Value} {v : Value} (hdg : decode bytes pc = .ok (.getfield 19, 3)) (hh : h a = some (cO 0 fs)) (hv : fs[2]? = some v) (kk : AW X n h k sl (pc + 3) L (v :: st)) : AW X n h k sl pc L (.ref a :: st) := aw_get hX 2 rfl (C := RX0) (T := TX0) (N := 6) rfl in_X0 kf_X0_19 (by decide) hh hv hdg kk
theorem pf_X0_19 {X : CX} {bytes : ByteArray} {ret : Option FieldType} {fr lo mc ms n1 : Nat} {post : Option Value → HP → Prop} {n k sl pc : Nat} {h : HP} {L : List (Option Value)} {st : List Value} (hX : Cx X RX0 bytes ret fr lo mc ms n1 post) (hini : X.2.2.2.2.2.2.2.2.1.name = "<init>") {a b : Nat} {fs : List Value} (hdg : decode bytes pc = .ok (.putfield 19, 3)) (hh : h a = some (cO 0 fs)) (hlen : 2 < fs.length) (kk : AW X n (hset h a (cO 0 (fs.set 2 (.ref b)))) k sl (pc + 3) L st) : AW X n h k sl pc L (.ref b :: .ref a :: st) := aw_putF hX 2 rfl (C := RX0) (T := TX0) (N := 6) (ty := .array .int) (v := .ref b) rfl in_X0 tyX0 tyX0_ok nmX0 kf_X0_19 (by decide) rfl hini rfl (by decide +kernel) rfl rfl hh hlen hdg kk
theorem kf_X9_215 : Cond.fieldLink RX9 215 (TX0 2).1 (TX0 2).2.1 (TX0 2).2.2.1 ∈ tbG := tb_at 46 (by decide +kernel) (by decide +kernel)
theorem gt_X9_215 {X : CX} {bytes : ByteArray} {ret : Option FieldType} {fr lo mc ms n1 : Nat} {post : Option Value → HP → Prop} {n k sl pc : Nat} {h : HP} {L : List (Option Value)} {st : List Value} (hX : Cx X RX9 bytes ret fr lo mc ms n1 post) {a : Nat} {fs : List Value} {v : Value} (hdg : decode bytes pc = .ok (.getfield 215, 3)) (hh : h a = some (cO 0 fs)) (hv : fs[2]? = some v) (kk : AW X n h k sl (pc + 3) L (v :: st)) : AW X n h k sl pc L (.ref a :: st) := aw_get hX 2 rfl (C := RX0) (T := TX0) (N := 6) rfl in_X0 kf_X9_215 (by decide) hh hv hdg kk
theorem kf_X0_22 : Cond.fieldLink RX0 22 (TX0 3).1 (TX0 3).2.1 (TX0 3).2.2.1 ∈ tbG := tb_at 47 (by decide +kernel) (by decide +kernel)
theorem gt_X0_22 {X : CX} {bytes : ByteArray} {ret : Option FieldType} {fr lo mc ms n1 : Nat} {post : Option Value → HP → Prop} {n k sl pc : Nat} {h : HP} {L : List (Option Value)} {st : List Value} (hX : Cx X RX0 bytes ret fr lo mc ms n1 post) {a : Nat} {fs : List Value} {v : Value} (hdg : decode bytes pc = .ok (.getfield 22, 3)) (hh : h a = some (cO 0 fs)) (hv : fs[3]? = some v) (kk : AW X n h k sl (pc + 3) L (v :: st)) : AW X n h k sl pc L (.ref a :: st) := aw_get hX 3 rfl (C := RX0) (T := TX0) (N := 6) rfl in_X0 kf_X0_22 (by decide) hh hv hdg kk
theorem pf_X0_22 {X : CX} {bytes : ByteArray} {ret : Option FieldType} {fr lo mc ms n1 : Nat} {post : Option Value → HP → Prop} {n k sl pc : Nat} {h : HP} {L : List (Option Value)} {st : List Value} (hX : Cx X RX0 bytes ret fr lo mc ms n1 post) (hini : X.2.2.2.2.2.2.2.2.1.name = "<init>") {a b : Nat} {fs : List Value} (hdg : decode bytes pc = .ok (.putfield 22, 3)) (hh : h a = some (cO 0 fs)) (hlen : 3 < fs.length) (kk : AW X n (hset h a (cO 0 (fs.set 3 (.ref b)))) k sl (pc + 3) L st) : AW X n h k sl pc L (.ref b :: .ref a :: st) := aw_putF hX 3 rfl (C := RX0) (T := TX0) (N := 6) (ty := .array .int) (v := .ref b) rfl in_X0 tyX0 tyX0_ok nmX0 kf_X0_22 (by decide) rfl hini rfl (by decide +kernel) rfl rfl hh hlen hdg kk
theorem kf_X9_218 : Cond.fieldLink RX9 218 (TX0 3).1 (TX0 3).2.1 (TX0 3).2.2.1 ∈ tbG := tb_at 48 (by decide +kernel) (by decide +kernel)
theorem gt_X9_218 {X : CX} {bytes : ByteArray} {ret : Option FieldType} {fr lo mc ms n1 : Nat} {post : Option Value → HP → Prop} {n k sl pc : Nat} {h : HP} {L : List (Option Value)} {st : List Value} (hX : Cx X RX9 bytes ret fr lo mc ms n1 post) {a : Nat} {fs : List Value} {v : Value} (hdg : decode bytes pc = .ok (.getfield 218, 3)) (hh : h a = some (cO 0 fs)) (hv : fs[3]? = some v) (kk : AW X n h k sl (pc + 3) L (v :: st)) : AW X n h k sl pc L (.ref a :: st) := aw_get hX 3 rfl (C := RX0) (T := TX0) (N := 6) rfl in_X0 kf_X9_218 (by decide) hh hv hdg kk
theorem kf_X0_25 : Cond.fieldLink RX0 25 (TX0 4).1 (TX0 4).2.1 (TX0 4).2.2.1 ∈ tbG := tb_at 49 (by decide +kernel) (by decide +kernel)
theorem gt_X0_25 {X : CX} {bytes : ByteArray} {ret : Option FieldType} {fr lo mc ms n1 : Nat} {post : Option Value → HP → Prop} {n k sl pc : Nat} {h : HP} {L : List (Option Value)} {st : List Value} (hX : Cx X RX0 bytes ret fr lo mc ms n1 post) {a : Nat} {fs : List Value} {v : Value} (hdg : decode bytes pc = .ok (.getfield 25, 3)) (hh : h a = some (cO 0 fs)) (hv : fs[4]? = some v) (kk : AW X n h k sl (pc + 3) L (v :: st)) : AW X n h k sl pc L (.ref a :: st) := aw_get hX 4 rfl (C := RX0) (T := TX0) (N := 6) rfl in_X0 kf_X0_25 (by decide) hh hv hdg kk
theorem pf_X0_25 {X : CX} {bytes : ByteArray} {ret : Option FieldType} {fr lo mc ms n1 : Nat} {post : Option Value → HP → Prop} {n k sl pc : Nat} {h : HP} {L : List (Option Value)} {st : List Value} (hX : Cx X RX0 bytes ret fr lo mc ms n1 post) (hini : X.2.2.2.2.2.2.2.2.1.name = "<init>") {a b : Nat} {fs : List Value} (hdg : decode bytes pc = .ok (.putfield 25, 3)) (hh : h a = some (cO 0 fs)) (hlen : 4 < fs.length) (kk : AW X n (hset h a (cO 0 (fs.set 4 (.ref b)))) k sl (pc + 3) L st) : AW X n h k sl pc L (.ref b :: .ref a :: st) := aw_putF hX 4 rfl (C := RX0) (T := TX0) (N := 6) (ty := .array .int) (v := .ref b) rfl in_X0 tyX0 tyX0_ok nmX0 kf_X0_25 (by decide) rfl hini rfl (by decide +kernel) rfl rfl hh hlen hdg kk
theorem kf_X9_221 : Cond.fieldLink RX9 221 (TX0 4).1 (TX0 4).2.1 (TX0 4).2.2.1 ∈ tbG := tb_at 50 (by decide +kernel) (by decide +kernel)
theorem gt_X9_221 {X : CX} {bytes : ByteArray} {ret : Option FieldType} {fr lo mc ms n1 : Nat} {post : Option Value → HP → Prop} {n k sl pc : Nat} {h : HP} {L : List (Option Value)} {st : List Value} (hX : Cx X RX9 bytes ret fr lo mc ms n1 post) {a : Nat} {fs : List Value} {v : Value} (hdg : decode bytes pc = .ok (.getfield 221, 3)) (hh : h a = some (cO 0 fs)) (hv : fs[4]? = some v) (kk : AW X n h k sl (pc + 3) L (v :: st)) : AW X n h k sl pc L (.ref a :: st) := aw_get hX 4 rfl (C := RX0) (T := TX0) (N := 6) rfl in_X0 kf_X9_221 (by decide) hh hv hdg kk
theorem kf_X0_28 : Cond.fieldLink RX0 28 (TX0 5).1 (TX0 5).2.1 (TX0 5).2.2.1 ∈ tbG := tb_at 51 (by decide +kernel) (by decide +kernel)
theorem gt_X0_28 {X : CX} {bytes : ByteArray} {ret : Option FieldType} {fr lo mc ms n1 : Nat} {post : Option Value → HP → Prop} {n k sl pc : Nat} {h : HP} {L : List (Option Value)} {st : List Value} (hX : Cx X RX0 bytes ret fr lo mc ms n1 post) {a : Nat} {fs : List Value} {v : Value} (hdg : decode bytes pc = .ok (.getfield 28, 3)) (hh : h a = some (cO 0 fs)) (hv : fs[5]? = some v) (kk : AW X n h k sl (pc + 3) L (v :: st)) : AW X n h k sl pc L (.ref a :: st) := aw_get hX 5 rfl (C := RX0) (T := TX0) (N := 6) rfl in_X0 kf_X0_28 (by decide) hh hv hdg kk
theorem pf_X0_28 {X : CX} {bytes : ByteArray} {ret : Option FieldType} {fr lo mc ms n1 : Nat} {post : Option Value → HP → Prop} {n k sl pc : Nat} {h : HP} {L : List (Option Value)} {st : List Value} (hX : Cx X RX0 bytes ret fr lo mc ms n1 post) (hini : X.2.2.2.2.2.2.2.2.1.name = "<init>") {a b : Nat} {fs : List Value} (hdg : decode bytes pc = .ok (.putfield 28, 3)) (hh : h a = some (cO 0 fs)) (hlen : 5 < fs.length) (kk : AW X n (hset h a (cO 0 (fs.set 5 (.ref b)))) k sl (pc + 3) L st) : AW X n h k sl pc L (.ref b :: .ref a :: st) := aw_putF hX 5 rfl (C := RX0) (T := TX0) (N := 6) (ty := .array .int) (v := .ref b) rfl in_X0 tyX0 tyX0_ok nmX0 kf_X0_28 (by decide) rfl hini rfl (by decide +kernel) rfl rfl hh hlen hdg kk
theorem kf_X3_9 : Cond.fieldLink RX3 9 (TX3 0).1 (TX3 0).2.1 (TX3 0).2.2.1 ∈ tbG := tb_at 72 (by decide +kernel) (by decide +kernel)
theorem gt_X3_9 {X : CX} {bytes : ByteArray} {ret : Option FieldType} {fr lo mc ms n1 : Nat} {post : Option Value → HP → Prop} {n k sl pc : Nat} {h : HP} {L : List (Option Value)} {st : List Value} (hX : Cx X RX3 bytes ret fr lo mc ms n1 post) {a : Nat} {fs : List Value} {v : Value} (hdg : decode bytes pc = .ok (.getfield 9, 3)) (hh : h a = some (cO 3 fs)) (hv : fs[0]? = some v) (kk : AW X n h k sl (pc + 3) L (v :: st)) : AW X n h k sl pc L (.ref a :: st) := aw_get hX 0 rfl (C := RX3) (T := TX3) (N := 5) rfl in_X3 kf_X3_9 (by decide) hh hv hdg kk
theorem pt_X3_9 {X : CX} {bytes : ByteArray} {ret : Option FieldType} {fr lo mc ms n1 : Nat} {post : Option Value → HP → Prop} {n k sl pc : Nat} {h : HP} {L : List (Option Value)} {st : List Value} (hX : Cx X RX3 bytes ret fr lo mc ms n1 post) {a : Nat} {fs : List Value} {v : Int32} (hdg : decode bytes pc = .ok (.putfield 9, 3)) (hh : h a = some (cO 3 fs)) (hlen : 0 < fs.length) (kk : AW X n (hset h a (cO 3 (fs.set 0 (.int v)))) k sl (pc + 3) L st) : AW X n h k sl pc L (.int v :: .ref a :: st) := aw_put hX 0 rfl (C := RX3) (T := TX3) (N := 5) (ty := .int) rfl in_X3 tyX3 tyX3_ok nmX3 kf_X3_9 (by decide) rfl (by decide +kernel) rfl rfl hh hlen hdg kk
theorem kf_X8_73 : Cond.fieldLink RX8 73 (TX3 0).1 (TX3 0).2.1 (TX3 0).2.2.1 ∈ tbG := tb_at 73 (by decide +kernel) (by decide +kernel)
theorem gt_X8_73 {X : CX} {bytes : ByteArray} {ret : Option FieldType} {fr lo mc ms n1 : Nat} {post : Option Value → HP → Prop} {n k sl pc : Nat} {h : HP} {L : List (Option Value)} {st : List Value} (hX : Cx X RX8 bytes ret fr lo mc ms n1 post) {a : Nat} {fs : List Value} {v : Value} (hdg : decode bytes pc = .ok (.getfield 73, 3)) (hh : h a = some (cO 3 fs)) (hv : fs[0]? = some v) (kk : AW X n h k sl (pc + 3) L (v :: st)) : AW X n h k sl pc L (.ref a :: st) := aw_get hX 0 rfl (C := RX3) (T := TX3) (N := 5) rfl in_X3 kf_X8_73 (by decide) hh hv hdg kk
theorem pt_X8_73 {X : CX} {bytes : ByteArray} {ret : Option FieldType} {fr lo mc ms n1 : Nat} {post : Option Value → HP → Prop} {n k sl pc : Nat} {h : HP} {L : List (Option Value)} {st : List Value} (hX : Cx X RX8 bytes ret fr lo mc ms n1 post) {a : Nat} {fs : List Value} {v : Int32} (hdg : decode bytes pc = .ok (.putfield 73, 3)) (hh : h a = some (cO 3 fs)) (hlen : 0 < fs.length) (kk : AW X n (hset h a (cO 3 (fs.set 0 (.int v)))) k sl (pc + 3) L st) : AW X n h k sl pc L (.int v :: .ref a :: st) := aw_put hX 0 rfl (C := RX3) (T := TX3) (N := 5) (ty := .int) rfl in_X3 tyX3 tyX3_ok nmX3 kf_X8_73 (by decide) rfl (by decide +kernel) rfl rfl hh hlen hdg kk
theorem kf_X9_194 : Cond.fieldLink RX9 194 (TX3 0).1 (TX3 0).2.1 (TX3 0).2.2.1 ∈ tbG := tb_at 74 (by decide +kernel) (by decide +kernel)
theorem gt_X9_194 {X : CX} {bytes : ByteArray} {ret : Option FieldType} {fr lo mc ms n1 : Nat} {post : Option Value → HP → Prop} {n k sl pc : Nat} {h : HP} {L : List (Option Value)} {st : List Value} (hX : Cx X RX9 bytes ret fr lo mc ms n1 post) {a : Nat} {fs : List Value} {v : Value} (hdg : decode bytes pc = .ok (.getfield 194, 3)) (hh : h a = some (cO 3 fs)) (hv : fs[0]? = some v) (kk : AW X n h k sl (pc + 3) L (v :: st)) : AW X n h k sl pc L (.ref a :: st) := aw_get hX 0 rfl (C := RX3) (T := TX3) (N := 5) rfl in_X3 kf_X9_194 (by decide) hh hv hdg kk
theorem pt_X9_194 {X : CX} {bytes : ByteArray} {ret : Option FieldType} {fr lo mc ms n1 : Nat} {post : Option Value → HP → Prop} {n k sl pc : Nat} {h : HP} {L : List (Option Value)} {st : List Value} (hX : Cx X RX9 bytes ret fr lo mc ms n1 post) {a : Nat} {fs : List Value} {v : Int32} (hdg : decode bytes pc = .ok (.putfield 194, 3)) (hh : h a = some (cO 3 fs)) (hlen : 0 < fs.length) (kk : AW X n (hset h a (cO 3 (fs.set 0 (.int v)))) k sl (pc + 3) L st) : AW X n h k sl pc L (.int v :: .ref a :: st) := aw_put hX 0 rfl (C := RX3) (T := TX3) (N := 5) (ty := .int) rfl in_X3 tyX3 tyX3_ok nmX3 kf_X9_194 (by decide) rfl (by decide +kernel) rfl rfl hh hlen hdg kk
theorem kf_X3_15 : Cond.fieldLink RX3 15 (TX3 1).1 (TX3 1).2.1 (TX3 1).2.2.1 ∈ tbG := tb_at 75 (by decide +kernel) (by decide +kernel)
theorem gt_X3_15 {X : CX} {bytes : ByteArray} {ret : Option FieldType} {fr lo mc ms n1 : Nat} {post : Option Value → HP → Prop} {n k sl pc : Nat} {h : HP} {L : List (Option Value)} {st : List Value} (hX : Cx X RX3 bytes ret fr lo mc ms n1 post) {a : Nat} {fs : List Value} {v : Value} (hdg : decode bytes pc = .ok (.getfield 15, 3)) (hh : h a = some (cO 3 fs)) (hv : fs[1]? = some v) (kk : AW X n h k sl (pc + 3) L (v :: st)) : AW X n h k sl pc L (.ref a :: st) := aw_get hX 1 rfl (C := RX3) (T := TX3) (N := 5) rfl in_X3 kf_X3_15 (by decide) hh hv hdg kk
theorem pt_X3_15 {X : CX} {bytes : ByteArray} {ret : Option FieldType} {fr lo mc ms n1 : Nat} {post : Option Value → HP → Prop} {n k sl pc : Nat} {h : HP} {L : List (Option Value)} {st : List Value} (hX : Cx X RX3 bytes ret fr lo mc ms n1 post) {a : Nat} {fs : List Value} {v : Int32} (hdg : decode bytes pc = .ok (.putfield 15, 3)) (hh : h a = some (cO 3 fs)) (hlen : 1 < fs.length) (kk : AW X n (hset h a (cO 3 (fs.set 1 (.int v)))) k sl (pc + 3) L st) : AW X n h k sl pc L (.int v :: .ref a :: st) := aw_put hX 1 rfl (C := RX3) (T := TX3) (N := 5) (ty := .int) rfl in_X3 tyX3 tyX3_ok nmX3 kf_X3_15 (by decide) rfl (by decide +kernel) rfl rfl hh hlen hdg kk
theorem kf_X8_66 : Cond.fieldLink RX8 66 (TX3 1).1 (TX3 1).2.1 (TX3 1).2.2.1 ∈ tbG := tb_at 76 (by decide +kernel) (by decide +kernel)
theorem gt_X8_66 {X : CX} {bytes : ByteArray} {ret : Option FieldType} {fr lo mc ms n1 : Nat} {post : Option Value → HP → Prop} {n k sl pc : Nat} {h : HP} {L : List (Option Value)} {st : List Value} (hX : Cx X RX8 bytes ret fr lo mc ms n1 post) {a : Nat} {fs : List Value} {v : Value} (hdg : decode bytes pc = .ok (.getfield 66, 3)) (hh : h a = some (cO 3 fs)) (hv : fs[1]? = some v) (kk : AW X n h k sl (pc + 3) L (v :: st)) : AW X n h k sl pc L (.ref a :: st) := aw_get hX 1 rfl (C := RX3) (T := TX3) (N := 5) rfl in_X3 kf_X8_66 (by decide) hh hv hdg kk
theorem pt_X8_66 {X : CX} {bytes : ByteArray} {ret : Option FieldType} {fr lo mc ms n1 : Nat} {post : Option Value → HP → Prop} {n k sl pc : Nat} {h : HP} {L : List (Option Value)} {st : List Value} (hX : Cx X RX8 bytes ret fr lo mc ms n1 post) {a : Nat} {fs : List Value} {v : Int32} (hdg : decode bytes pc = .ok (.putfield 66, 3)) (hh : h a = some (cO 3 fs)) (hlen : 1 < fs.length) (kk : AW X n (hset h a (cO 3 (fs.set 1 (.int v)))) k sl (pc + 3) L st) : AW X n h k sl pc L (.int v :: .ref a :: st) := aw_put hX 1 rfl (C := RX3) (T := TX3) (N := 5) (ty := .int) rfl in_X3 tyX3 tyX3_ok nmX3 kf_X8_66 (by decide) rfl (by decide +kernel) rfl rfl hh hlen hdg kk
theorem kf_X9_197 : Cond.fieldLink RX9 197 (TX3 1).1 (TX3 1).2.1 (TX3 1).2.2.1 ∈ tbG := tb_at 77 (by decide +kernel) (by decide +kernel)
theorem gt_X9_197 {X : CX} {bytes : ByteArray} {ret : Option FieldType} {fr lo mc ms n1 : Nat} {post : Option Value → HP → Prop} {n k sl pc : Nat} {h : HP} {L : List (Option Value)} {st : List Value} (hX : Cx X RX9 bytes ret fr lo mc ms n1 post) {a : Nat} {fs : List Value} {v : Value} (hdg : decode bytes pc = .ok (.getfield 197, 3)) (hh : h a = some (cO 3 fs)) (hv : fs[1]? = some v) (kk : AW X n h k sl (pc + 3) L (v :: st)) : AW X n h k sl pc L (.ref a :: st) := aw_get hX 1 rfl (C := RX3) (T := TX3) (N := 5) rfl in_X3 kf_X9_197 (by decide) hh hv hdg kk
theorem pt_X9_197 {X : CX} {bytes : ByteArray} {ret : Option FieldType} {fr lo mc ms n1 : Nat} {post : Option Value → HP → Prop} {n k sl pc : Nat} {h : HP} {L : List (Option Value)} {st : List Value} (hX : Cx X RX9 bytes ret fr lo mc ms n1 post) {a : Nat} {fs : List Value} {v : Int32} (hdg : decode bytes pc = .ok (.putfield 197, 3)) (hh : h a = some (cO 3 fs)) (hlen : 1 < fs.length) (kk : AW X n (hset h a (cO 3 (fs.set 1 (.int v)))) k sl (pc + 3) L st) : AW X n h k sl pc L (.int v :: .ref a :: st) := aw_put hX 1 rfl (C := RX3) (T := TX3) (N := 5) (ty := .int) rfl in_X3 tyX3 tyX3_ok nmX3 kf_X9_197 (by decide) rfl (by decide +kernel) rfl rfl hh hlen hdg kk
theorem kf_X3_18 : Cond.fieldLink RX3 18 (TX3 2).1 (TX3 2).2.1 (TX3 2).2.2.1 ∈ tbG := tb_at 78 (by decide +kernel) (by decide +kernel)
theorem gt_X3_18 {X : CX} {bytes : ByteArray} {ret : Option FieldType} {fr lo mc ms n1 : Nat} {post : Option Value → HP → Prop} {n k sl pc : Nat} {h : HP} {L : List (Option Value)} {st : List Value} (hX : Cx X RX3 bytes ret fr lo mc ms n1 post) {a : Nat} {fs : List Value} {v : Value} (hdg : decode bytes pc = .ok (.getfield 18, 3)) (hh : h a = some (cO 3 fs)) (hv : fs[2]? = some v) (kk : AW X n h k sl (pc + 3) L (v :: st)) : AW X n h k sl pc L (.ref a :: st) := aw_get hX 2 rfl (C := RX3) (T := TX3) (N := 5) rfl in_X3 kf_X3_18 (by decide) hh hv hdg kk
theorem pt_X3_18 {X : CX} {bytes : ByteArray} {ret : Option FieldType} {fr lo mc ms n1 : Nat} {post : Option Value → HP → Prop} {n k sl pc : Nat} {h : HP} {L : List (Option Value)} {st : List Value} (hX : Cx X RX3 bytes ret fr lo mc ms n1 post) {a : Nat} {fs : List Value} {v : Int32} (hdg : decode bytes pc = .ok (.putfield 18, 3)) (hh : h a = some (cO 3 fs)) (hlen : 2 < fs.length) (kk : AW X n (hset h a (cO 3 (fs.set 2 (.int v)))) k sl (pc + 3) L st) : AW X n h k sl pc L (.int v :: .ref a :: st) := aw_put hX 2 rfl (C := RX3) (T := TX3) (N := 5) (ty := .int) rfl in_X3 tyX3 tyX3_ok nmX3 kf_X3_18 (by decide) rfl (by decide +kernel) rfl rfl hh hlen hdg kk
theorem kf_X9_200 : Cond.fieldLink RX9 200 (TX3 2).1 (TX3 2).2.1 (TX3 2).2.2.1 ∈ tbG := tb_at 79 (by decide +kernel) (by decide +kernel)
theorem gt_X9_200 {X : CX} {bytes : ByteArray} {ret : Option FieldType} {fr lo mc ms n1 : Nat} {post : Option Value → HP → Prop} {n k sl pc : Nat} {h : HP} {L : List (Option Value)} {st : List Value} (hX : Cx X RX9 bytes ret fr lo mc ms n1 post) {a : Nat} {fs : List Value} {v : Value} (hdg : decode bytes pc = .ok (.getfield 200, 3)) (hh : h a = some (cO 3 fs)) (hv : fs[2]? = some v) (kk : AW X n h k sl (pc + 3) L (v :: st)) : AW X n h k sl pc L (.ref a :: st) := aw_get hX 2 rfl (C := RX3) (T := TX3) (N := 5) rfl in_X3 kf_X9_200 (by decide) hh hv hdg kk
theorem pt_X9_200 {X : CX} {bytes : ByteArray} {ret : Option FieldType} {fr lo mc ms n1 : Nat} {post : Option Value → HP → Prop} {n k sl pc : Nat} {h : HP} {L : List (Option Value)} {st : List Value} (hX : Cx X RX9 bytes ret fr lo mc ms n1 post) {a : Nat} {fs : List Value} {v : Int32} (hdg : decode bytes pc = .ok (.putfield 200, 3)) (hh : h a = some (cO 3 fs)) (hlen : 2 < fs.length) (kk : AW X n (hset h a (cO 3 (fs.set 2 (.int v)))) k sl (pc + 3) L st) : AW X n h k sl pc L (.int v :: .ref a :: st) := aw_put hX 2 rfl (C := RX3) (T := TX3) (N := 5) (ty := .int) rfl in_X3 tyX3 tyX3_ok nmX3 kf_X9_200 (by decide) rfl (by decide +kernel) rfl rfl hh hlen hdg kk
theorem kf_X3_21 : Cond.fieldLink RX3 21 (TX3 3).1 (TX3 3).2.1 (TX3 3).2.2.1 ∈ tbG := tb_at 80 (by decide +kernel) (by decide +kernel)
theorem gt_X3_21 {X : CX} {bytes : ByteArray} {ret : Option FieldType} {fr lo mc ms n1 : Nat} {post : Option Value → HP → Prop} {n k sl pc : Nat} {h : HP} {L : List (Option Value)} {st : List Value} (hX : Cx X RX3 bytes ret fr lo mc ms n1 post) {a : Nat} {fs : List Value} {v : Value} (hdg : decode bytes pc = .ok (.getfield 21, 3)) (hh : h a = some (cO 3 fs)) (hv : fs[3]? = some v) (kk : AW X n h k sl (pc + 3) L (v :: st)) : AW X n h k sl pc L (.ref a :: st) := aw_get hX 3 rfl (C := RX3) (T := TX3) (N := 5) rfl in_X3 kf_X3_21 (by decide) hh hv hdg kk
theorem pt_X3_21 {X : CX} {bytes : ByteArray} {ret : Option FieldType} {fr lo mc ms n1 : Nat} {post : Option Value → HP → Prop} {n k sl pc : Nat} {h : HP} {L : List (Option Value)} {st : List Value} (hX : Cx X RX3 bytes ret fr lo mc ms n1 post) {a : Nat} {fs : List Value} {v : Int32} (hdg : decode bytes pc = .ok (.putfield 21, 3)) (hh : h a = some (cO 3 fs)) (hlen : 3 < fs.length) (kk : AW X n (hset h a (cO 3 (fs.set 3 (.int v)))) k sl (pc + 3) L st) : AW X n h k sl pc L (.int v :: .ref a :: st) := aw_put hX 3 rfl (C := RX3) (T := TX3) (N := 5) (ty := .int) rfl in_X3 tyX3 tyX3_ok nmX3 kf_X3_21 (by decide) rfl (by decide +kernel) rfl rfl hh hlen hdg kk
theorem kf_X9_203 : Cond.fieldLink RX9 203 (TX3 3).1 (TX3 3).2.1 (TX3 3).2.2.1 ∈ tbG := tb_at 81 (by decide +kernel) (by decide +kernel)
theorem gt_X9_203 {X : CX} {bytes : ByteArray} {ret : Option FieldType} {fr lo mc ms n1 : Nat} {post : Option Value → HP → Prop} {n k sl pc : Nat} {h : HP} {L : List (Option Value)} {st : List Value} (hX : Cx X RX9 bytes ret fr lo mc ms n1 post) {a : Nat} {fs : List Value} {v : Value} (hdg : decode bytes pc = .ok (.getfield 203, 3)) (hh : h a = some (cO 3 fs)) (hv : fs[3]? = some v) (kk : AW X n h k sl (pc + 3) L (v :: st)) : AW X n h k sl pc L (.ref a :: st) := aw_get hX 3 rfl (C := RX3) (T := TX3) (N := 5) rfl in_X3 kf_X9_203 (by decide) hh hv hdg kk
theorem pt_X9_203 {X : CX} {bytes : ByteArray} {ret : Option FieldType} {fr lo mc ms n1 : Nat} {post : Option Value → HP → Prop} {n k sl pc : Nat} {h : HP} {L : List (Option Value)} {st : List Value} (hX : Cx X RX9 bytes ret fr lo mc ms n1 post) {a : Nat} {fs : List Value} {v : Int32} (hdg : decode bytes pc = .ok (.putfield 203, 3)) (hh : h a = some (cO 3 fs)) (hlen : 3 < fs.length) (kk : AW X n (hset h a (cO 3 (fs.set 3 (.int v)))) k sl (pc + 3) L st) : AW X n h k sl pc L (.int v :: .ref a :: st) := aw_put hX 3 rfl (C := RX3) (T := TX3) (N := 5) (ty := .int) rfl in_X3 tyX3 tyX3_ok nmX3 kf_X9_203 (by decide) rfl (by decide +kernel) rfl rfl hh hlen hdg kk
theorem kf_X3_24 : Cond.fieldLink RX3 24 (TX3 4).1 (TX3 4).2.1 (TX3 4).2.2.1 ∈ tbG := tb_at 82 (by decide +kernel) (by decide +kernel)
theorem gt_X3_24 {X : CX} {bytes : ByteArray} {ret : Option FieldType} {fr lo mc ms n1 : Nat} {post : Option Value → HP → Prop} {n k sl pc : Nat} {h : HP} {L : List (Option Value)} {st : List Value} (hX : Cx X RX3 bytes ret fr lo mc ms n1 post) {a : Nat} {fs : List Value} {v : Value} (hdg : decode bytes pc = .ok (.getfield 24, 3)) (hh : h a = some (cO 3 fs)) (hv : fs[4]? = some v) (kk : AW X n h k sl (pc + 3) L (v :: st)) : AW X n h k sl pc L (.ref a :: st) := aw_get hX 4 rfl (C := RX3) (T := TX3) (N := 5) rfl in_X3 kf_X3_24 (by decide) hh hv hdg kk
theorem pf_X3_24 {X : CX} {bytes : ByteArray} {ret : Option FieldType} {fr lo mc ms n1 : Nat} {post : Option Value → HP → Prop} {n k sl pc : Nat} {h : HP} {L : List (Option Value)} {st : List Value} (hX : Cx X RX3 bytes ret fr lo mc ms n1 post) (hini : X.2.2.2.2.2.2.2.2.1.name = "<init>") {a b : Nat} {fs : List Value} (hdg : decode bytes pc = .ok (.putfield 24, 3)) (hh : h a = some (cO 3 fs)) (hlen : 4 < fs.length) (kk : AW X n (hset h a (cO 3 (fs.set 4 (.ref b)))) k sl (pc + 3) L st) : AW X n h k sl pc L (.ref b :: .ref a :: st) := aw_putF hX 4 rfl (C := RX3) (T := TX3) (N := 5) (ty := .array .int) (v := .ref b) rfl in_X3 tyX3 tyX3_ok nmX3 kf_X3_24 (by decide) rfl hini rfl (by decide +kernel) rfl rfl hh hlen hdg kk
theorem kf_X7_9 : Cond.fieldLink RX7 9 (TX7 0).1 (TX7 0).2.1 (TX7 0).2.2.1 ∈ tbG := tb_at 100 (by decide +kernel) (by decide +kernel)
theorem gt_X7_9 {X : CX} {bytes : ByteArray} {ret : Option FieldType} {fr lo mc ms n1 : Nat} {post : Option Value → HP → Prop} {n k sl pc : Nat} {h : HP} {L : List (Option Value)} {st : List Value} (hX : Cx X RX7 bytes ret fr lo mc ms n1 post) {a : Nat} {fs : List Value} {v : Value} (hdg : decode bytes pc = .ok (.getfield 9, 3)) (hh : h a = some (cO 7 fs)) (hv : fs[0]? = some v) (kk : AW X n h k sl (pc + 3) L (v :: st)) : AW X n h k sl pc L (.ref a :: st) := aw_get hX 0 rfl (C := RX7) (T := TX7) (N := 5) rfl in_X7 kf_X7_9 (by decide) hh hv hdg kk
theorem pf_X7_9 {X : CX} {bytes : ByteArray} {ret : Option FieldType} {fr lo mc ms n1 : Nat} {post : Option Value → HP → Prop} {n k sl pc : Nat} {h : HP} {L : List (Option Value)} {st : List Value} (hX : Cx X RX7 bytes ret fr lo mc ms n1 post) (hini : X.2.2.2.2.2.2.2.2.1.name = "<init>") {a b : Nat} {fs : List Value} (hdg : decode bytes pc = .ok (.putfield 9, 3)) (hh : h a = some (cO 7 fs)) (hlen : 0 < fs.length) (kk : AW X n (hset h a (cO 7 (fs.set 0 (.ref b)))) k sl (pc + 3) L st) : AW X n h k sl pc L (.ref b :: .ref a :: st) := aw_putF hX 0 rfl (C := RX7) (T := TX7) (N := 5) (ty := .array .int) (v := .ref b) rfl in_X7 tyX7 tyX7_ok nmX7 kf_X7_9 (by decide) rfl hini rfl (by decide +kernel) rfl rfl hh hlen hdg kk
theorem kf_X7_15 : Cond.fieldLink RX7 15 (TX7 1).1 (TX7 1).2.1 (TX7 1).2.2.1 ∈ tbG := tb_at 101 (by decide +kernel) (by decide +kernel)
theorem gt_X7_15 {X : CX} {bytes : ByteArray} {ret : Option FieldType} {fr lo mc ms n1 : Nat} {post : Option Value → HP → Prop} {n k sl pc : Nat} {h : HP} {L : List (Option Value)} {st : List Value} (hX : Cx X RX7 bytes ret fr lo mc ms n1 post) {a : Nat} {fs : List Value} {v : Value} (hdg : decode bytes pc = .ok (.getfield 15, 3)) (hh : h a = some (cO 7 fs)) (hv : fs[1]? = some v) (kk : AW X n h k sl (pc + 3) L (v :: st)) : AW X n h k sl pc L (.ref a :: st) := aw_get hX 1 rfl (C := RX7) (T := TX7) (N := 5) rfl in_X7 kf_X7_15 (by decide) hh hv hdg kk
theorem pf_X7_15 {X : CX} {bytes : ByteArray} {ret : Option FieldType} {fr lo mc ms n1 : Nat} {post : Option Value → HP → Prop} {n k sl pc : Nat} {h : HP} {L : List (Option Value)} {st : List Value} (hX : Cx X RX7 bytes ret fr lo mc ms n1 post) (hini : X.2.2.2.2.2.2.2.2.1.name = "<init>") {a b : Nat} {fs : List Value} (hdg : decode bytes pc = .ok (.putfield 15, 3)) (hh : h a = some (cO 7 fs)) (hlen : 1 < fs.length) (kk : AW X n (hset h a (cO 7 (fs.set 1 (.ref b)))) k sl (pc + 3) L st) : AW X n h k sl pc L (.ref b :: .ref a :: st) := aw_putF hX 1 rfl (C := RX7) (T := TX7) (N := 5) (ty := .array .int) (v := .ref b) rfl in_X7 tyX7 tyX7_ok nmX7 kf_X7_15 (by decide) rfl hini rfl (by decide +kernel) rfl rfl hh hlen hdg kk
theorem kf_X7_18 : Cond.fieldLink RX7 18 (TX7 2).1 (TX7 2).2.1 (TX7 2).2.2.1 ∈ tbG := tb_at 102 (by decide +kernel) (by decide +kernel)
theorem gt_X7_18 {X : CX} {bytes : ByteArray} {ret : Option FieldType} {fr lo mc ms n1 : Nat} {post : Option Value → HP → Prop} {n k sl pc : Nat} {h : HP} {L : List (Option Value)} {st : List Value} (hX : Cx X RX7 bytes ret fr lo mc ms n1 post) {a : Nat} {fs : List Value} {v : Value} (hdg : decode bytes pc = .ok (.getfield 18, 3)) (hh : h a = some (cO 7 fs)) (hv : fs[2]? = some v) (kk : AW X n h k sl (pc + 3) L (v :: st)) : AW X n h k sl pc L (.ref a :: st) := aw_get hX 2 rfl (C := RX7) (T := TX7) (N := 5) rfl in_X7 kf_X7_18 (by decide) hh hv hdg kk
theorem pf_X7_18 {X : CX} {bytes : ByteArray} {ret : Option FieldType} {fr lo mc ms n1 : Nat} {post : Option Value → HP → Prop} {n k sl pc : Nat} {h : HP} {L : List (Option Value)} {st : List Value} (hX : Cx X RX7 bytes ret fr lo mc ms n1 post) (hini : X.2.2.2.2.2.2.2.2.1.name = "<init>") {a b : Nat} {fs : List Value} (hdg : decode bytes pc = .ok (.putfield 18, 3)) (hh : h a = some (cO 7 fs)) (hlen : 2 < fs.length) (kk : AW X n (hset h a (cO 7 (fs.set 2 (.ref b)))) k sl (pc + 3) L st) : AW X n h k sl pc L (.ref b :: .ref a :: st) := aw_putF hX 2 rfl (C := RX7) (T := TX7) (N := 5) (ty := .array .int) (v := .ref b) rfl in_X7 tyX7 tyX7_ok nmX7 kf_X7_18 (by decide) rfl hini rfl (by decide +kernel) rfl rfl hh hlen hdg kk
theorem kf_X7_21 : Cond.fieldLink RX7 21 (TX7 3).1 (TX7 3).2.1 (TX7 3).2.2.1 ∈ tbG := tb_at 103 (by decide +kernel) (by decide +kernel)
theorem gt_X7_21 {X : CX} {bytes : ByteArray} {ret : Option FieldType} {fr lo mc ms n1 : Nat} {post : Option Value → HP → Prop} {n k sl pc : Nat} {h : HP} {L : List (Option Value)} {st : List Value} (hX : Cx X RX7 bytes ret fr lo mc ms n1 post) {a : Nat} {fs : List Value} {v : Value} (hdg : decode bytes pc = .ok (.getfield 21, 3)) (hh : h a = some (cO 7 fs)) (hv : fs[3]? = some v) (kk : AW X n h k sl (pc + 3) L (v :: st)) : AW X n h k sl pc L (.ref a :: st) := aw_get hX 3 rfl (C := RX7) (T := TX7) (N := 5) rfl in_X7 kf_X7_21 (by decide) hh hv hdg kk
theorem pf_X7_21 {X : CX} {bytes : ByteArray} {ret : Option FieldType} {fr lo mc ms n1 : Nat} {post : Option Value → HP → Prop} {n k sl pc : Nat} {h : HP} {L : List (Option Value)} {st : List Value} (hX : Cx X RX7 bytes ret fr lo mc ms n1 post) (hini : X.2.2.2.2.2.2.2.2.1.name = "<init>") {a b : Nat} {fs : List Value} (hdg : decode bytes pc = .ok (.putfield 21, 3)) (hh : h a = some (cO 7 fs)) (hlen : 3 < fs.length) (kk : AW X n (hset h a (cO 7 (fs.set 3 (.ref b)))) k sl (pc + 3) L st) : AW X n h k sl pc L (.ref b :: .ref a :: st) := aw_putF hX 3 rfl (C := RX7) (T := TX7) (N := 5) (ty := .array .int) (v := .ref b) rfl in_X7 tyX7 tyX7_ok nmX7 kf_X7_21 (by decide) rfl hini rfl (by decide +kernel) rfl rfl hh hlen hdg kk
theorem kf_X7_24 : Cond.fieldLink RX7 24 (TX7 4).1 (TX7 4).2.1 (TX7 4).2.2.1 ∈ tbG := tb_at 104 (by decide +kernel) (by decide +kernel)
theorem gt_X7_24 {X : CX} {bytes : ByteArray} {ret : Option FieldType} {fr lo mc ms n1 : Nat} {post : Option Value → HP → Prop} {n k sl pc : Nat} {h : HP} {L : List (Option Value)} {st : List Value} (hX : Cx X RX7 bytes ret fr lo mc ms n1 post) {a : Nat} {fs : List Value} {v : Value} (hdg : decode bytes pc = .ok (.getfield 24, 3)) (hh : h a = some (cO 7 fs)) (hv : fs[4]? = some v) (kk : AW X n h k sl (pc + 3) L (v :: st)) : AW X n h k sl pc L (.ref a :: st) := aw_get hX 4 rfl (C := RX7) (T := TX7) (N := 5) rfl in_X7 kf_X7_24 (by decide) hh hv hdg kk
theorem pt_X7_24 {X : CX} {bytes : ByteArray} {ret : Option FieldType} {fr lo mc ms n1 : Nat} {post : Option Value → HP → Prop} {n k sl pc : Nat} {h : HP} {L : List (Option Value)} {st : List Value} (hX : Cx X RX7 bytes ret fr lo mc ms n1 post) {a : Nat} {fs : List Value} {v : Int32} (hdg : decode bytes pc = .ok (.putfield 24, 3)) (hh : h a = some (cO 7 fs)) (hlen : 4 < fs.length) (kk : AW X n (hset h a (cO 7 (fs.set 4 (.int v)))) k sl (pc + 3) L st) : AW X n h k sl pc L (.int v :: .ref a :: st) := aw_put hX 4 rfl (C := RX7) (T := TX7) (N := 5) (ty := .int) rfl in_X7 tyX7 tyX7_ok nmX7 kf_X7_24 (by decide) rfl (by decide +kernel) rfl rfl hh hlen hdg kk
theorem kf_X9_114 : Cond.fieldLink RX9 114 (TX7 4).1 (TX7 4).2.1 (TX7 4).2.2.1 ∈ tbG := tb_at 105 (by decide +kernel) (by decide +kernel)
theorem gt_X9_114 {X : CX} {bytes : ByteArray} {ret : Option FieldType} {fr lo mc ms n1 : Nat} {post : Option Value → HP → Prop} {n k sl pc : Nat} {h : HP} {L : List (Option Value)} {st : List Value} (hX : Cx X RX9 bytes ret fr lo mc ms n1 post) {a : Nat} {fs : List Value} {v : Value} (hdg : decode bytes pc = .ok (.getfield 114, 3)) (hh : h a = some (cO 7 fs)) (hv : fs[4]? = some v) (kk : AW X n h k sl (pc + 3) L (v :: st)) : AW X n h k sl pc L (.ref a :: st) := aw_get hX 4 rfl (C := RX7) (T := TX7) (N := 5) rfl in_X7 kf_X9_114 (by decide) hh hv hdg kk
theorem pt_X9_114 {X : CX} {bytes : ByteArray} {ret : Option FieldType} {fr lo mc ms n1 : Nat} {post : Option Value → HP → Prop} {n k sl pc : Nat} {h : HP} {L : List (Option Value)} {st : List Value} (hX : Cx X RX9 bytes ret fr lo mc ms n1 post) {a : Nat} {fs : List Value} {v : Int32} (hdg : decode bytes pc = .ok (.putfield 114, 3)) (hh : h a = some (cO 7 fs)) (hlen : 4 < fs.length) (kk : AW X n (hset h a (cO 7 (fs.set 4 (.int v)))) k sl (pc + 3) L st) : AW X n h k sl pc L (.int v :: .ref a :: st) := aw_put hX 4 rfl (C := RX7) (T := TX7) (N := 5) (ty := .int) rfl in_X7 tyX7 tyX7_ok nmX7 kf_X9_114 (by decide) rfl (by decide +kernel) rfl rfl hh hlen hdg kk
theorem kf_X8_12 : Cond.fieldLink RX8 12 (TX8 0).1 (TX8 0).2.1 (TX8 0).2.2.1 ∈ tbG := tb_at 126 (by decide +kernel) (by decide +kernel)
theorem gt_X8_12 {X : CX} {bytes : ByteArray} {ret : Option FieldType} {fr lo mc ms n1 : Nat} {post : Option Value → HP → Prop} {n k sl pc : Nat} {h : HP} {L : List (Option Value)} {st : List Value} (hX : Cx X RX8 bytes ret fr lo mc ms n1 post) {a : Nat} {fs : List Value} {v : Value} (hdg : decode bytes pc = .ok (.getfield 12, 3)) (hh : h a = some (cO 8 fs)) (hv : fs[0]? = some v) (kk : AW X n h k sl (pc + 3) L (v :: st)) : AW X n h k sl pc L (.ref a :: st) := aw_get hX 0 rfl (C := RX8) (T := TX8) (N := 4) rfl in_X8 kf_X8_12 (by decide) hh hv hdg kk
theorem pf_X8_12 {X : CX} {bytes : ByteArray} {ret : Option FieldType} {fr lo mc ms n1 : Nat} {post : Option Value → HP → Prop} {n k sl pc : Nat} {h : HP} {L : List (Option Value)} {st : List Value} (hX : Cx X RX8 bytes ret fr lo mc ms n1 post) (hini : X.2.2.2.2.2.2.2.2.1.name = "<init>") {a b : Nat} {fs : List Value} (hdg : decode bytes pc = .ok (.putfield 12, 3)) (hh : h a = some (cO 8 fs)) (hlen : 0 < fs.length) (kk : AW X n (hset h a (cO 8 (fs.set 0 (.ref b)))) k sl (pc + 3) L st) : AW X n h k sl pc L (.ref b :: .ref a :: st) := aw_putF hX 0 rfl (C := RX8) (T := TX8) (N := 4) (ty := .object "FlipBoard$Dots") (v := .ref b) rfl in_X8 tyX8 tyX8_ok nmX8 kf_X8_12 (by decide) rfl hini rfl (by decide +kernel) rfl rfl hh hlen hdg kk
theorem kf_X5_18 : Cond.fieldLink RX5 18 (TX8 0).1 (TX8 0).2.1 (TX8 0).2.2.1 ∈ tbG := tb_at 127 (by decide +kernel) (by decide +kernel)
theorem gt_X5_18 {X : CX} {bytes : ByteArray} {ret : Option FieldType} {fr lo mc ms n1 : Nat} {post : Option Value → HP → Prop} {n k sl pc : Nat} {h : HP} {L : List (Option Value)} {st : List Value} (hX : Cx X RX5 bytes ret fr lo mc ms n1 post) {a : Nat} {fs : List Value} {v : Value} (hdg : decode bytes pc = .ok (.getfield 18, 3)) (hh : h a = some (cO 8 fs)) (hv : fs[0]? = some v) (kk : AW X n h k sl (pc + 3) L (v :: st)) : AW X n h k sl pc L (.ref a :: st) := aw_get hX 0 rfl (C := RX8) (T := TX8) (N := 4) rfl in_X8 kf_X5_18 (by decide) hh hv hdg kk
theorem kf_X1_20 : Cond.fieldLink RX1 20 (TX8 0).1 (TX8 0).2.1 (TX8 0).2.2.1 ∈ tbG := tb_at 128 (by decide +kernel) (by decide +kernel)
theorem gt_X1_20 {X : CX} {bytes : ByteArray} {ret : Option FieldType} {fr lo mc ms n1 : Nat} {post : Option Value → HP → Prop} {n k sl pc : Nat} {h : HP} {L : List (Option Value)} {st : List Value} (hX : Cx X RX1 bytes ret fr lo mc ms n1 post) {a : Nat} {fs : List Value} {v : Value} (hdg : decode bytes pc = .ok (.getfield 20, 3)) (hh : h a = some (cO 8 fs)) (hv : fs[0]? = some v) (kk : AW X n h k sl (pc + 3) L (v :: st)) : AW X n h k sl pc L (.ref a :: st) := aw_get hX 0 rfl (C := RX8) (T := TX8) (N := 4) rfl in_X8 kf_X1_20 (by decide) hh hv hdg kk
theorem kf_X9_66 : Cond.fieldLink RX9 66 (TX8 0).1 (TX8 0).2.1 (TX8 0).2.2.1 ∈ tbG := tb_at 129 (by decide +kernel) (by decide +kernel)
theorem gt_X9_66 {X : CX} {bytes : ByteArray} {ret : Option FieldType} {fr lo mc ms n1 : Nat} {post : Option Value → HP → Prop} {n k sl pc : Nat} {h : HP} {L : List (Option Value)} {st : List Value} (hX : Cx X RX9 bytes ret fr lo mc ms n1 post) {a : Nat} {fs : List Value} {v : Value} (hdg : decode bytes pc = .ok (.getfield 66, 3)) (hh : h a = some (cO 8 fs)) (hv : fs[0]? = some v) (kk : AW X n h k sl (pc + 3) L (v :: st)) : AW X n h k sl pc L (.ref a :: st) := aw_get hX 0 rfl (C := RX8) (T := TX8) (N := 4) rfl in_X8 kf_X9_66 (by decide) hh hv hdg kk
theorem kf_X8_21 : Cond.fieldLink RX8 21 (TX8 1).1 (TX8 1).2.1 (TX8 1).2.2.1 ∈ tbG := tb_at 130 (by decide +kernel) (by decide +kernel)
theorem gt_X8_21 {X : CX} {bytes : ByteArray} {ret : Option FieldType} {fr lo mc ms n1 : Nat} {post : Option Value → HP → Prop} {n k sl pc : Nat} {h : HP} {L : List (Option Value)} {st : List Value} (hX : Cx X RX8 bytes ret fr lo mc ms n1 post) {a : Nat} {fs : List Value} {v : Value} (hdg : decode bytes pc = .ok (.getfield 21, 3)) (hh : h a = some (cO 8 fs)) (hv : fs[1]? = some v) (kk : AW X n h k sl (pc + 3) L (v :: st)) : AW X n h k sl pc L (.ref a :: st) := aw_get hX 1 rfl (C := RX8) (T := TX8) (N := 4) rfl in_X8 kf_X8_21 (by decide) hh hv hdg kk
theorem pf_X8_21 {X : CX} {bytes : ByteArray} {ret : Option FieldType} {fr lo mc ms n1 : Nat} {post : Option Value → HP → Prop} {n k sl pc : Nat} {h : HP} {L : List (Option Value)} {st : List Value} (hX : Cx X RX8 bytes ret fr lo mc ms n1 post) (hini : X.2.2.2.2.2.2.2.2.1.name = "<init>") {a b : Nat} {fs : List Value} (hdg : decode bytes pc = .ok (.putfield 21, 3)) (hh : h a = some (cO 8 fs)) (hlen : 1 < fs.length) (kk : AW X n (hset h a (cO 8 (fs.set 1 (.ref b)))) k sl (pc + 3) L st) : AW X n h k sl pc L (.ref b :: .ref a :: st) := aw_putF hX 1 rfl (C := RX8) (T := TX8) (N := 4) (ty := .object "FlipBoard$Meter") (v := .ref b) rfl in_X8 tyX8 tyX8_ok nmX8 kf_X8_21 (by decide) rfl hini rfl (by decide +kernel) rfl rfl hh hlen hdg kk
theorem kf_X9_79 : Cond.fieldLink RX9 79 (TX8 1).1 (TX8 1).2.1 (TX8 1).2.2.1 ∈ tbG := tb_at 131 (by decide +kernel) (by decide +kernel)
theorem gt_X9_79 {X : CX} {bytes : ByteArray} {ret : Option FieldType} {fr lo mc ms n1 : Nat} {post : Option Value → HP → Prop} {n k sl pc : Nat} {h : HP} {L : List (Option Value)} {st : List Value} (hX : Cx X RX9 bytes ret fr lo mc ms n1 post) {a : Nat} {fs : List Value} {v : Value} (hdg : decode bytes pc = .ok (.getfield 79, 3)) (hh : h a = some (cO 8 fs)) (hv : fs[1]? = some v) (kk : AW X n h k sl (pc + 3) L (v :: st)) : AW X n h k sl pc L (.ref a :: st) := aw_get hX 1 rfl (C := RX8) (T := TX8) (N := 4) rfl in_X8 kf_X9_79 (by decide) hh hv hdg kk
theorem kf_X1_38 : Cond.fieldLink RX1 38 (TX8 1).1 (TX8 1).2.1 (TX8 1).2.2.1 ∈ tbG := tb_at 132 (by decide +kernel) (by decide +kernel)
theorem gt_X1_38 {X : CX} {bytes : ByteArray} {ret : Option FieldType} {fr lo mc ms n1 : Nat} {post : Option Value → HP → Prop} {n k sl pc : Nat} {h : HP} {L : List (Option Value)} {st : List Value} (hX : Cx X RX1 bytes ret fr lo mc ms n1 post) {a : Nat} {fs : List Value} {v : Value} (hdg : decode bytes pc = .ok (.getfield 38, 3)) (hh : h a = some (cO 8 fs)) (hv : fs[1]? = some v) (kk : AW X n h k sl (pc + 3) L (v :: st)) : AW X n h k sl pc L (.ref a :: st) := aw_get hX 1 rfl (C := RX8) (T := TX8) (N := 4) rfl in_X8 kf_X1_38 (by decide) hh hv hdg kk
theorem kf_X8_28 : Cond.fieldLink RX8 28 (TX8 2).1 (TX8 2).2.1 (TX8 2).2.2.1 ∈ tbG := tb_at 133 (by decide +kernel) (by decide +kernel)
theorem gt_X8_28 {X : CX} {bytes : ByteArray} {ret : Option FieldType} {fr lo mc ms n1 : Nat} {post : Option Value → HP → Prop} {n k sl pc : Nat} {h : HP} {L : List (Option Value)} {st : List Value} (hX : Cx X RX8 bytes ret fr lo mc ms n1 post) {a : Nat} {fs : List Value} {v : Value} (hdg : decode bytes pc = .ok (.getfield 28, 3)) (hh : h a = some (cO 8 fs)) (hv : fs[2]? = some v) (kk : AW X n h k sl (pc + 3) L (v :: st)) : AW X n h k sl pc L (.ref a :: st) := aw_get hX 2 rfl (C := RX8) (T := TX8) (N := 4) rfl in_X8 kf_X8_28 (by decide) hh hv hdg kk
theorem pf_X8_28 {X : CX} {bytes : ByteArray} {ret : Option FieldType} {fr lo mc ms n1 : Nat} {post : Option Value → HP → Prop} {n k sl pc : Nat} {h : HP} {L : List (Option Value)} {st : List Value} (hX : Cx X RX8 bytes ret fr lo mc ms n1 post) (hini : X.2.2.2.2.2.2.2.2.1.name = "<init>") {a b : Nat} {fs : List Value} (hdg : decode bytes pc = .ok (.putfield 28, 3)) (hh : h a = some (cO 8 fs)) (hlen : 2 < fs.length) (kk : AW X n (hset h a (cO 8 (fs.set 2 (.ref b)))) k sl (pc + 3) L st) : AW X n h k sl pc L (.ref b :: .ref a :: st) := aw_putF hX 2 rfl (C := RX8) (T := TX8) (N := 4) (ty := .object "FlipBoard$Script") (v := .ref b) rfl in_X8 tyX8 tyX8_ok nmX8 kf_X8_28 (by decide) rfl hini rfl (by decide +kernel) rfl rfl hh hlen hdg kk
theorem kf_X5_30 : Cond.fieldLink RX5 30 (TX8 2).1 (TX8 2).2.1 (TX8 2).2.2.1 ∈ tbG := tb_at 134 (by decide +kernel) (by decide +kernel)
theorem gt_X5_30 {X : CX} {bytes : ByteArray} {ret : Option FieldType} {fr lo mc ms n1 : Nat} {post : Option Value → HP → Prop} {n k sl pc : Nat} {h : HP} {L : List (Option Value)} {st : List Value} (hX : Cx X RX5 bytes ret fr lo mc ms n1 post) {a : Nat} {fs : List Value} {v : Value} (hdg : decode bytes pc = .ok (.getfield 30, 3)) (hh : h a = some (cO 8 fs)) (hv : fs[2]? = some v) (kk : AW X n h k sl (pc + 3) L (v :: st)) : AW X n h k sl pc L (.ref a :: st) := aw_get hX 2 rfl (C := RX8) (T := TX8) (N := 4) rfl in_X8 kf_X5_30 (by decide) hh hv hdg kk
theorem kf_X9_100 : Cond.fieldLink RX9 100 (TX8 2).1 (TX8 2).2.1 (TX8 2).2.2.1 ∈ tbG := tb_at 135 (by decide +kernel) (by decide +kernel)
theorem gt_X9_100 {X : CX} {bytes : ByteArray} {ret : Option FieldType} {fr lo mc ms n1 : Nat} {post : Option Value → HP → Prop} {n k sl pc : Nat} {h : HP} {L : List (Option Value)} {st : List Value} (hX : Cx X RX9 bytes ret fr lo mc ms n1 post) {a : Nat} {fs : List Value} {v : Value} (hdg : decode bytes pc = .ok (.getfield 100, 3)) (hh : h a = some (cO 8 fs)) (hv : fs[2]? = some v) (kk : AW X n h k sl (pc + 3) L (v :: st)) : AW X n h k sl pc L (.ref a :: st) := aw_get hX 2 rfl (C := RX8) (T := TX8) (N := 4) rfl in_X8 kf_X9_100 (by decide) hh hv hdg kk
theorem kf_X8_41 : Cond.fieldLink RX8 41 (TX8 3).1 (TX8 3).2.1 (TX8 3).2.2.1 ∈ tbG := tb_at 136 (by decide +kernel) (by decide +kernel)
theorem gt_X8_41 {X : CX} {bytes : ByteArray} {ret : Option FieldType} {fr lo mc ms n1 : Nat} {post : Option Value → HP → Prop} {n k sl pc : Nat} {h : HP} {L : List (Option Value)} {st : List Value} (hX : Cx X RX8 bytes ret fr lo mc ms n1 post) {a : Nat} {fs : List Value} {v : Value} (hdg : decode bytes pc = .ok (.getfield 41, 3)) (hh : h a = some (cO 8 fs)) (hv : fs[3]? = some v) (kk : AW X n h k sl (pc + 3) L (v :: st)) : AW X n h k sl pc L (.ref a :: st) := aw_get hX 3 rfl (C := RX8) (T := TX8) (N := 4) rfl in_X8 kf_X8_41 (by decide) hh hv hdg kk
theorem pf_X8_41 {X : CX} {bytes : ByteArray} {ret : Option FieldType} {fr lo mc ms n1 : Nat} {post : Option Value → HP → Prop} {n k sl pc : Nat} {h : HP} {L : List (Option Value)} {st : List Value} (hX : Cx X RX8 bytes ret fr lo mc ms n1 post) (hini : X.2.2.2.2.2.2.2.2.1.name = "<init>") {a b : Nat} {fs : List Value} (hdg : decode bytes pc = .ok (.putfield 41, 3)) (hh : h a = some (cO 8 fs)) (hlen : 3 < fs.length) (kk : AW X n (hset h a (cO 8 (fs.set 3 (.ref b)))) k sl (pc + 3) L st) : AW X n h k sl pc L (.ref b :: .ref a :: st) := aw_putF hX 3 rfl (C := RX8) (T := TX8) (N := 4) (ty := .array .int) (v := .ref b) rfl in_X8 tyX8 tyX8_ok nmX8 kf_X8_41 (by decide) rfl hini rfl (by decide +kernel) rfl rfl hh hlen hdg kk
theorem kf_X1_15 : Cond.fieldLink RX1 15 (TX8 3).1 (TX8 3).2.1 (TX8 3).2.2.1 ∈ tbG := tb_at 137 (by decide +kernel) (by decide +kernel)
theorem gt_X1_15 {X : CX} {bytes : ByteArray} {ret : Option FieldType} {fr lo mc ms n1 : Nat} {post : Option Value → HP → Prop} {n k sl pc : Nat} {h : HP} {L : List (Option Value)} {st : List Value} (hX : Cx X RX1 bytes ret fr lo mc ms n1 post) {a : Nat} {fs : List Value} {v : Value} (hdg : decode bytes pc = .ok (.getfield 15, 3)) (hh : h a = some (cO 8 fs)) (hv : fs[3]? = some v) (kk : AW X n h k sl (pc + 3) L (v :: st)) : AW X n h k sl pc L (.ref a :: st) := aw_get hX 3 rfl (C := RX8) (T := TX8) (N := 4) rfl in_X8 kf_X1_15 (by decide) hh hv hdg kk
theorem kf_X9_97 : Cond.fieldLink RX9 97 (TX8 3).1 (TX8 3).2.1 (TX8 3).2.2.1 ∈ tbG := tb_at 138 (by decide +kernel) (by decide +kernel)
theorem gt_X9_97 {X : CX} {bytes : ByteArray} {ret : Option FieldType} {fr lo mc ms n1 : Nat} {post : Option Value → HP → Prop} {n k sl pc : Nat} {h : HP} {L : List (Option Value)} {st : List Value} (hX : Cx X RX9 bytes ret fr lo mc ms n1 post) {a : Nat} {fs : List Value} {v : Value} (hdg : decode bytes pc = .ok (.getfield 97, 3)) (hh : h a = some (cO 8 fs)) (hv : fs[3]? = some v) (kk : AW X n h k sl (pc + 3) L (v :: st)) : AW X n h k sl pc L (.ref a :: st) := aw_get hX 3 rfl (C := RX8) (T := TX8) (N := 4) rfl in_X8 kf_X9_97 (by decide) hh hv hdg kk
theorem kf_X2_11 : Cond.fieldLink RX2 11 (TX2 0).1 (TX2 0).2.1 (TX2 0).2.2.1 ∈ tbG := tb_at 157 (by decide +kernel) (by decide +kernel)
theorem gt_X2_11 {X : CX} {bytes : ByteArray} {ret : Option FieldType} {fr lo mc ms n1 : Nat} {post : Option Value → HP → Prop} {n k sl pc : Nat} {h : HP} {L : List (Option Value)} {st : List Value} (hX : Cx X RX2 bytes ret fr lo mc ms n1 post) {a : Nat} {fs : List Value} {v : Value} (hdg : decode bytes pc = .ok (.getfield 11, 3)) (hh : h a = some (cO 2 fs)) (hv : fs[0]? = some v) (kk : AW X n h k sl (pc + 3) L (v :: st)) : AW X n h k sl pc L (.ref a :: st) := aw_get hX 0 rfl (C := RX2) (T := TX2) (N := 3) rfl in_X2 kf_X2_11 (by decide) hh hv hdg kk
theorem pf_X2_11 {X : CX} {bytes : ByteArray} {ret : Option FieldType} {fr lo mc ms n1 : Nat} {post : Option Value → HP → Prop} {n k sl pc : Nat} {h : HP} {L : List (Option Value)} {st : List Value} (hX : Cx X RX2 bytes ret fr lo mc ms n1 post) (hini : X.2.2.2.2.2.2.2.2.1.name = "<init>") {a b : Nat} {fs : List Value} (hdg : decode bytes pc = .ok (.putfield 11, 3)) (hh : h a = some (cO 2 fs)) (hlen : 0 < fs.length) (kk : AW X n (hset h a (cO 2 (fs.set 0 (.ref b)))) k sl (pc + 3) L st) : AW X n h k sl pc L (.ref b :: .ref a :: st) := aw_putF hX 0 rfl (C := RX2) (T := TX2) (N := 3) (ty := .array (.object "FlipBoard$State")) (v := .ref b) rfl in_X2 tyX2 tyX2_ok nmX2 kf_X2_11 (by decide) rfl hini rfl (by decide +kernel) rfl rfl hh hlen hdg kk
theorem kf_X2_17 : Cond.fieldLink RX2 17 (TX2 1).1 (TX2 1).2.1 (TX2 1).2.2.1 ∈ tbG := tb_at 158 (by decide +kernel) (by decide +kernel)
theorem gt_X2_17 {X : CX} {bytes : ByteArray} {ret : Option FieldType} {fr lo mc ms n1 : Nat} {post : Option Value → HP → Prop} {n k sl pc : Nat} {h : HP} {L : List (Option Value)} {st : List Value} (hX : Cx X RX2 bytes ret fr lo mc ms n1 post) {a : Nat} {fs : List Value} {v : Value} (hdg : decode bytes pc = .ok (.getfield 17, 3)) (hh : h a = some (cO 2 fs)) (hv : fs[1]? = some v) (kk : AW X n h k sl (pc + 3) L (v :: st)) : AW X n h k sl pc L (.ref a :: st) := aw_get hX 1 rfl (C := RX2) (T := TX2) (N := 3) rfl in_X2 kf_X2_17 (by decide) hh hv hdg kk
theorem pt_X2_17 {X : CX} {bytes : ByteArray} {ret : Option FieldType} {fr lo mc ms n1 : Nat} {post : Option Value → HP → Prop} {n k sl pc : Nat} {h : HP} {L : List (Option Value)} {st : List Value} (hX : Cx X RX2 bytes ret fr lo mc ms n1 post) {a : Nat} {fs : List Value} {v : Int32} (hdg : decode bytes pc = .ok (.putfield 17, 3)) (hh : h a = some (cO 2 fs)) (hlen : 1 < fs.length) (kk : AW X n (hset h a (cO 2 (fs.set 1 (.int v)))) k sl (pc + 3) L st) : AW X n h k sl pc L (.int v :: .ref a :: st) := aw_put hX 1 rfl (C := RX2) (T := TX2) (N := 3) (ty := .int) rfl in_X2 tyX2 tyX2_ok nmX2 kf_X2_17 (by decide) rfl (by decide +kernel) rfl rfl hh hlen hdg kk
theorem kf_X2_21 : Cond.fieldLink RX2 21 (TX2 2).1 (TX2 2).2.1 (TX2 2).2.2.1 ∈ tbG := tb_at 159 (by decide +kernel) (by decide +kernel)
theorem gt_X2_21 {X : CX} {bytes : ByteArray} {ret : Option FieldType} {fr lo mc ms n1 : Nat} {post : Option Value → HP → Prop} {n k sl pc : Nat} {h : HP} {L : List (Option Value)} {st : List Value} (hX : Cx X RX2 bytes ret fr lo mc ms n1 post) {a : Nat} {fs : List Value} {v : Value} (hdg : decode bytes pc = .ok (.getfield 21, 3)) (hh : h a = some (cO 2 fs)) (hv : fs[2]? = some v) (kk : AW X n h k sl (pc + 3) L (v :: st)) : AW X n h k sl pc L (.ref a :: st) := aw_get hX 2 rfl (C := RX2) (T := TX2) (N := 3) rfl in_X2 kf_X2_21 (by decide) hh hv hdg kk
theorem pt_X2_21 {X : CX} {bytes : ByteArray} {ret : Option FieldType} {fr lo mc ms n1 : Nat} {post : Option Value → HP → Prop} {n k sl pc : Nat} {h : HP} {L : List (Option Value)} {st : List Value} (hX : Cx X RX2 bytes ret fr lo mc ms n1 post) {a : Nat} {fs : List Value} {v : Int32} (hdg : decode bytes pc = .ok (.putfield 21, 3)) (hh : h a = some (cO 2 fs)) (hlen : 2 < fs.length) (kk : AW X n (hset h a (cO 2 (fs.set 2 (.int v)))) k sl (pc + 3) L st) : AW X n h k sl pc L (.int v :: .ref a :: st) := aw_put hX 2 rfl (C := RX2) (T := TX2) (N := 3) (ty := .int) rfl in_X2 tyX2 tyX2_ok nmX2 kf_X2_21 (by decide) rfl (by decide +kernel) rfl rfl hh hlen hdg kk
theorem kf_X9_206 : Cond.fieldLink RX9 206 (TX2 2).1 (TX2 2).2.1 (TX2 2).2.2.1 ∈ tbG := tb_at 160 (by decide +kernel) (by decide +kernel)
theorem gt_X9_206 {X : CX} {bytes : ByteArray} {ret : Option FieldType} {fr lo mc ms n1 : Nat} {post : Option Value → HP → Prop} {n k sl pc : Nat} {h : HP} {L : List (Option Value)} {st : List Value} (hX : Cx X RX9 bytes ret fr lo mc ms n1 post) {a : Nat} {fs : List Value} {v : Value} (hdg : decode bytes pc = .ok (.getfield 206, 3)) (hh : h a = some (cO 2 fs)) (hv : fs[2]? = some v) (kk : AW X n h k sl (pc + 3) L (v :: st)) : AW X n h k sl pc L (.ref a :: st) := aw_get hX 2 rfl (C := RX2) (T := TX2) (N := 3) rfl in_X2 kf_X9_206 (by decide) hh hv hdg kk
theorem pt_X9_206 {X : CX} {bytes : ByteArray} {ret : Option FieldType} {fr lo mc ms n1 : Nat} {post : Option Value → HP → Prop} {n k sl pc : Nat} {h : HP} {L : List (Option Value)} {st : List Value} (hX : Cx X RX9 bytes ret fr lo mc ms n1 post) {a : Nat} {fs : List Value} {v : Int32} (hdg : decode bytes pc = .ok (.putfield 206, 3)) (hh : h a = some (cO 2 fs)) (hlen : 2 < fs.length) (kk : AW X n (hset h a (cO 2 (fs.set 2 (.int v)))) k sl (pc + 3) L st) : AW X n h k sl pc L (.int v :: .ref a :: st) := aw_put hX 2 rfl (C := RX2) (T := TX2) (N := 3) (ty := .int) rfl in_X2 tyX2 tyX2_ok nmX2 kf_X9_206 (by decide) rfl (by decide +kernel) rfl rfl hh hlen hdg kk
theorem kf_X5_9 : Cond.fieldLink RX5 9 (TX5 0).1 (TX5 0).2.1 (TX5 0).2.2.1 ∈ tbG := tb_at 174 (by decide +kernel) (by decide +kernel)
theorem gt_X5_9 {X : CX} {bytes : ByteArray} {ret : Option FieldType} {fr lo mc ms n1 : Nat} {post : Option Value → HP → Prop} {n k sl pc : Nat} {h : HP} {L : List (Option Value)} {st : List Value} (hX : Cx X RX5 bytes ret fr lo mc ms n1 post) {a : Nat} {fs : List Value} {v : Value} (hdg : decode bytes pc = .ok (.getfield 9, 3)) (hh : h a = some (cO 5 fs)) (hv : fs[0]? = some v) (kk : AW X n h k sl (pc + 3) L (v :: st)) : AW X n h k sl pc L (.ref a :: st) := aw_get hX 0 rfl (C := RX5) (T := TX5) (N := 2) rfl in_X5 kf_X5_9 (by decide) hh hv hdg kk
theorem pf_X5_9 {X : CX} {bytes : ByteArray} {ret : Option FieldType} {fr lo mc ms n1 : Nat} {post : Option Value → HP → Prop} {n k sl pc : Nat} {h : HP} {L : List (Option Value)} {st : List Value} (hX : Cx X RX5 bytes ret fr lo mc ms n1 post) (hini : X.2.2.2.2.2.2.2.2.1.name = "<init>") {a b : Nat} {fs : List Value} (hdg : decode bytes pc = .ok (.putfield 9, 3)) (hh : h a = some (cO 5 fs)) (hlen : 0 < fs.length) (kk : AW X n (hset h a (cO 5 (fs.set 0 (.ref b)))) k sl (pc + 3) L st) : AW X n h k sl pc L (.ref b :: .ref a :: st) := aw_putF hX 0 rfl (C := RX5) (T := TX5) (N := 2) (ty := .array .int) (v := .ref b) rfl in_X5 tyX5 tyX5_ok nmX5 kf_X5_9 (by decide) rfl hini rfl (by decide +kernel) rfl rfl hh hlen hdg kk
theorem kf_X9_151 : Cond.fieldLink RX9 151 (TX5 0).1 (TX5 0).2.1 (TX5 0).2.2.1 ∈ tbG := tb_at 175 (by decide +kernel) (by decide +kernel)
theorem gt_X9_151 {X : CX} {bytes : ByteArray} {ret : Option FieldType} {fr lo mc ms n1 : Nat} {post : Option Value → HP → Prop} {n k sl pc : Nat} {h : HP} {L : List (Option Value)} {st : List Value} (hX : Cx X RX9 bytes ret fr lo mc ms n1 post) {a : Nat} {fs : List Value} {v : Value} (hdg : decode bytes pc = .ok (.getfield 151, 3)) (hh : h a = some (cO 5 fs)) (hv : fs[0]? = some v) (kk : AW X n h k sl (pc + 3) L (v :: st)) : AW X n h k sl pc L (.ref a :: st) := aw_get hX 0 rfl (C := RX5) (T := TX5) (N := 2) rfl in_X5 kf_X9_151 (by decide) hh hv hdg kk
theorem kf_X5_15 : Cond.fieldLink RX5 15 (TX5 1).1 (TX5 1).2.1 (TX5 1).2.2.1 ∈ tbG := tb_at 176 (by decide +kernel) (by decide +kernel)
theorem gt_X5_15 {X : CX} {bytes : ByteArray} {ret : Option FieldType} {fr lo mc ms n1 : Nat} {post : Option Value → HP → Prop} {n k sl pc : Nat} {h : HP} {L : List (Option Value)} {st : List Value} (hX : Cx X RX5 bytes ret fr lo mc ms n1 post) {a : Nat} {fs : List Value} {v : Value} (hdg : decode bytes pc = .ok (.getfield 15, 3)) (hh : h a = some (cO 5 fs)) (hv : fs[1]? = some v) (kk : AW X n h k sl (pc + 3) L (v :: st)) : AW X n h k sl pc L (.ref a :: st) := aw_get hX 1 rfl (C := RX5) (T := TX5) (N := 2) rfl in_X5 kf_X5_15 (by decide) hh hv hdg kk
theorem pf_X5_15 {X : CX} {bytes : ByteArray} {ret : Option FieldType} {fr lo mc ms n1 : Nat} {post : Option Value → HP → Prop} {n k sl pc : Nat} {h : HP} {L : List (Option Value)} {st : List Value} (hX : Cx X RX5 bytes ret fr lo mc ms n1 post) (hini : X.2.2.2.2.2.2.2.2.1.name = "<init>") {a b : Nat} {fs : List Value} (hdg : decode bytes pc = .ok (.putfield 15, 3)) (hh : h a = some (cO 5 fs)) (hlen : 1 < fs.length) (kk : AW X n (hset h a (cO 5 (fs.set 1 (.ref b)))) k sl (pc + 3) L st) : AW X n h k sl pc L (.ref b :: .ref a :: st) := aw_putF hX 1 rfl (C := RX5) (T := TX5) (N := 2) (ty := .array .int) (v := .ref b) rfl in_X5 tyX5 tyX5_ok nmX5 kf_X5_15 (by decide) rfl hini rfl (by decide +kernel) rfl rfl hh hlen hdg kk
theorem kf_X1_9 : Cond.fieldLink RX1 9 (TX1 0).1 (TX1 0).2.1 (TX1 0).2.2.1 ∈ tbG := tb_at 188 (by decide +kernel) (by decide +kernel)
theorem gt_X1_9 {X : CX} {bytes : ByteArray} {ret : Option FieldType} {fr lo mc ms n1 : Nat} {post : Option Value → HP → Prop} {n k sl pc : Nat} {h : HP} {L : List (Option Value)} {st : List Value} (hX : Cx X RX1 bytes ret fr lo mc ms n1 post) {a : Nat} {fs : List Value} {v : Value} (hdg : decode bytes pc = .ok (.getfield 9, 3)) (hh : h a = some (cO 1 fs)) (hv : fs[0]? = some v) (kk : AW X n h k sl (pc + 3) L (v :: st)) : AW X n h k sl pc L (.ref a :: st) := aw_get hX 0 rfl (C := RX1) (T := TX1) (N := 1) rfl in_X1 kf_X1_9 (by decide) hh hv hdg kk
theorem pf_X1_9 {X : CX} {bytes : ByteArray} {ret : Option FieldType} {fr lo mc ms n1 : Nat} {post : Option Value → HP → Prop} {n k sl pc : Nat} {h : HP} {L : List (Option Value)} {st : List Value} (hX : Cx X RX1 bytes ret fr lo mc ms n1 post) (hini : X.2.2.2.2.2.2.2.2.1.name = "<init>") {a b : Nat} {fs : List Value} (hdg : decode bytes pc = .ok (.putfield 9, 3)) (hh : h a = some (cO 1 fs)) (hlen : 0 < fs.length) (kk : AW X n (hset h a (cO 1 (fs.set 0 (.ref b)))) k sl (pc + 3) L st) : AW X n h k sl pc L (.ref b :: .ref a :: st) := aw_putF hX 0 rfl (C := RX1) (T := TX1) (N := 1) (ty := .array .int) (v := .ref b) rfl in_X1 tyX1 tyX1_ok nmX1 kf_X1_9 (by decide) rfl hini rfl (by decide +kernel) rfl rfl hh hlen hdg kk
theorem kf_X6_12 : Cond.fieldLink RX6 12 (TX6 0).1 (TX6 0).2.1 (TX6 0).2.2.1 ∈ tbG := tb_at 200 (by decide +kernel) (by decide +kernel)
theorem gt_X6_12 {X : CX} {bytes : ByteArray} {ret : Option FieldType} {fr lo mc ms n1 : Nat} {post : Option Value → HP → Prop} {n k sl pc : Nat} {h : HP} {L : List (Option Value)} {st : List Value} (hX : Cx X RX6 bytes ret fr lo mc ms n1 post) {a : Nat} {fs : List Value} {v : Value} (hdg : decode bytes pc = .ok (.getfield 12, 3)) (hh : h a = some (cO 6 fs)) (hv : fs[0]? = some v) (kk : AW X n h k sl (pc + 3) L (v :: st)) : AW X n h k sl pc L (.ref a :: st) := aw_get hX 0 rfl (C := RX6) (T := TX6) (N := 5) rfl in_X6 kf_X6_12 (by decide) hh hv hdg kk
theorem pf_X6_12 {X : CX} {bytes : ByteArray} {ret : Option FieldType} {fr lo mc ms n1 : Nat} {post : Option Value → HP → Prop} {n k sl pc : Nat} {h : HP} {L : List (Option Value)} {st : List Value} (hX : Cx X RX6 bytes ret fr lo mc ms n1 post) (hini : X.2.2.2.2.2.2.2.2.1.name = "<init>") {a b : Nat} {fs : List Value} (hdg : decode bytes pc = .ok (.putfield 12, 3)) (hh : h a = some (cO 6 fs)) (hlen : 0 < fs.length) (kk : AW X n (hset h a (cO 6 (fs.set 0 (.ref b)))) k sl (pc + 3) L st) : AW X n h k sl pc L (.ref b :: .ref a :: st) := aw_putF hX 0 rfl (C := RX6) (T := TX6) (N := 5) (ty := .object "FlipBoard$Script") (v := .ref b) rfl in_X6 tyX6 tyX6_ok nmX6 kf_X6_12 (by decide) rfl hini rfl (by decide +kernel) rfl rfl hh hlen hdg kk
theorem kf_X6_18 : Cond.fieldLink RX6 18 (TX6 1).1 (TX6 1).2.1 (TX6 1).2.2.1 ∈ tbG := tb_at 201 (by decide +kernel) (by decide +kernel)
theorem gt_X6_18 {X : CX} {bytes : ByteArray} {ret : Option FieldType} {fr lo mc ms n1 : Nat} {post : Option Value → HP → Prop} {n k sl pc : Nat} {h : HP} {L : List (Option Value)} {st : List Value} (hX : Cx X RX6 bytes ret fr lo mc ms n1 post) {a : Nat} {fs : List Value} {v : Value} (hdg : decode bytes pc = .ok (.getfield 18, 3)) (hh : h a = some (cO 6 fs)) (hv : fs[1]? = some v) (kk : AW X n h k sl (pc + 3) L (v :: st)) : AW X n h k sl pc L (.ref a :: st) := aw_get hX 1 rfl (C := RX6) (T := TX6) (N := 5) rfl in_X6 kf_X6_18 (by decide) hh hv hdg kk
theorem pt_X6_18 {X : CX} {bytes : ByteArray} {ret : Option FieldType} {fr lo mc ms n1 : Nat} {post : Option Value → HP → Prop} {n k sl pc : Nat} {h : HP} {L : List (Option Value)} {st : List Value} (hX : Cx X RX6 bytes ret fr lo mc ms n1 post) {a : Nat} {fs : List Value} {v : Int32} (hdg : decode bytes pc = .ok (.putfield 18, 3)) (hh : h a = some (cO 6 fs)) (hlen : 1 < fs.length) (kk : AW X n (hset h a (cO 6 (fs.set 1 (.int v)))) k sl (pc + 3) L st) : AW X n h k sl pc L (.int v :: .ref a :: st) := aw_put hX 1 rfl (C := RX6) (T := TX6) (N := 5) (ty := .int) rfl in_X6 tyX6 tyX6_ok nmX6 kf_X6_18 (by decide) rfl (by decide +kernel) rfl rfl hh hlen hdg kk
theorem kf_X6_22 : Cond.fieldLink RX6 22 (TX6 2).1 (TX6 2).2.1 (TX6 2).2.2.1 ∈ tbG := tb_at 202 (by decide +kernel) (by decide +kernel)
theorem gt_X6_22 {X : CX} {bytes : ByteArray} {ret : Option FieldType} {fr lo mc ms n1 : Nat} {post : Option Value → HP → Prop} {n k sl pc : Nat} {h : HP} {L : List (Option Value)} {st : List Value} (hX : Cx X RX6 bytes ret fr lo mc ms n1 post) {a : Nat} {fs : List Value} {v : Value} (hdg : decode bytes pc = .ok (.getfield 22, 3)) (hh : h a = some (cO 6 fs)) (hv : fs[2]? = some v) (kk : AW X n h k sl (pc + 3) L (v :: st)) : AW X n h k sl pc L (.ref a :: st) := aw_get hX 2 rfl (C := RX6) (T := TX6) (N := 5) rfl in_X6 kf_X6_22 (by decide) hh hv hdg kk
theorem pt_X6_22 {X : CX} {bytes : ByteArray} {ret : Option FieldType} {fr lo mc ms n1 : Nat} {post : Option Value → HP → Prop} {n k sl pc : Nat} {h : HP} {L : List (Option Value)} {st : List Value} (hX : Cx X RX6 bytes ret fr lo mc ms n1 post) {a : Nat} {fs : List Value} {v : Int32} (hdg : decode bytes pc = .ok (.putfield 22, 3)) (hh : h a = some (cO 6 fs)) (hlen : 2 < fs.length) (kk : AW X n (hset h a (cO 6 (fs.set 2 (.int v)))) k sl (pc + 3) L st) : AW X n h k sl pc L (.int v :: .ref a :: st) := aw_put hX 2 rfl (C := RX6) (T := TX6) (N := 5) (ty := .int) rfl in_X6 tyX6 tyX6_ok nmX6 kf_X6_22 (by decide) rfl (by decide +kernel) rfl rfl hh hlen hdg kk
theorem kf_X6_25 : Cond.fieldLink RX6 25 (TX6 3).1 (TX6 3).2.1 (TX6 3).2.2.1 ∈ tbG := tb_at 203 (by decide +kernel) (by decide +kernel)
theorem gt_X6_25 {X : CX} {bytes : ByteArray} {ret : Option FieldType} {fr lo mc ms n1 : Nat} {post : Option Value → HP → Prop} {n k sl pc : Nat} {h : HP} {L : List (Option Value)} {st : List Value} (hX : Cx X RX6 bytes ret fr lo mc ms n1 post) {a : Nat} {fs : List Value} {v : Value} (hdg : decode bytes pc = .ok (.getfield 25, 3)) (hh : h a = some (cO 6 fs)) (hv : fs[3]? = some v) (kk : AW X n h k sl (pc + 3) L (v :: st)) : AW X n h k sl pc L (.ref a :: st) := aw_get hX 3 rfl (C := RX6) (T := TX6) (N := 5) rfl in_X6 kf_X6_25 (by decide) hh hv hdg kk
theorem pt_X6_25 {X : CX} {bytes : ByteArray} {ret : Option FieldType} {fr lo mc ms n1 : Nat} {post : Option Value → HP → Prop} {n k sl pc : Nat} {h : HP} {L : List (Option Value)} {st : List Value} (hX : Cx X RX6 bytes ret fr lo mc ms n1 post) {a : Nat} {fs : List Value} {v : Int32} (hdg : decode bytes pc = .ok (.putfield 25, 3)) (hh : h a = some (cO 6 fs)) (hlen : 3 < fs.length) (kk : AW X n (hset h a (cO 6 (fs.set 3 (.int v)))) k sl (pc + 3) L st) : AW X n h k sl pc L (.int v :: .ref a :: st) := aw_put hX 3 rfl (C := RX6) (T := TX6) (N := 5) (ty := .int) rfl in_X6 tyX6 tyX6_ok nmX6 kf_X6_25 (by decide) rfl (by decide +kernel) rfl rfl hh hlen hdg kk
theorem kf_X6_28 : Cond.fieldLink RX6 28 (TX6 4).1 (TX6 4).2.1 (TX6 4).2.2.1 ∈ tbG := tb_at 204 (by decide +kernel) (by decide +kernel)
theorem gt_X6_28 {X : CX} {bytes : ByteArray} {ret : Option FieldType} {fr lo mc ms n1 : Nat} {post : Option Value → HP → Prop} {n k sl pc : Nat} {h : HP} {L : List (Option Value)} {st : List Value} (hX : Cx X RX6 bytes ret fr lo mc ms n1 post) {a : Nat} {fs : List Value} {v : Value} (hdg : decode bytes pc = .ok (.getfield 28, 3)) (hh : h a = some (cO 6 fs)) (hv : fs[4]? = some v) (kk : AW X n h k sl (pc + 3) L (v :: st)) : AW X n h k sl pc L (.ref a :: st) := aw_get hX 4 rfl (C := RX6) (T := TX6) (N := 5) rfl in_X6 kf_X6_28 (by decide) hh hv hdg kk
theorem pt_X6_28 {X : CX} {bytes : ByteArray} {ret : Option FieldType} {fr lo mc ms n1 : Nat} {post : Option Value → HP → Prop} {n k sl pc : Nat} {h : HP} {L : List (Option Value)} {st : List Value} (hX : Cx X RX6 bytes ret fr lo mc ms n1 post) {a : Nat} {fs : List Value} {v : Int32} (hdg : decode bytes pc = .ok (.putfield 28, 3)) (hh : h a = some (cO 6 fs)) (hlen : 4 < fs.length) (kk : AW X n (hset h a (cO 6 (fs.set 4 (.int v)))) k sl (pc + 3) L st) : AW X n h k sl pc L (.int v :: .ref a :: st) := aw_put hX 4 rfl (C := RX6) (T := TX6) (N := 5) (ty := .int) rfl in_X6 tyX6 tyX6_ok nmX6 kf_X6_28 (by decide) rfl (by decide +kernel) rfl rfl hh hlen hdg kk
theorem kf_X4_11 : Cond.fieldLink RX4 11 (TX4 0).1 (TX4 0).2.1 (TX4 0).2.2.1 ∈ tbG := tb_at 224 (by decide +kernel) (by decide +kernel)
theorem gt_X4_11 {X : CX} {bytes : ByteArray} {ret : Option FieldType} {fr lo mc ms n1 : Nat} {post : Option Value → HP → Prop} {n k sl pc : Nat} {h : HP} {L : List (Option Value)} {st : List Value} (hX : Cx X RX4 bytes ret fr lo mc ms n1 post) {a : Nat} {fs : List Value} {v : Value} (hdg : decode bytes pc = .ok (.getfield 11, 3)) (hh : h a = some (cO 4 fs)) (hv : fs[0]? = some v) (kk : AW X n h k sl (pc + 3) L (v :: st)) : AW X n h k sl pc L (.ref a :: st) := aw_get hX 0 rfl (C := RX4) (T := TX4) (N := 5) rfl in_X4 kf_X4_11 (by decide) hh hv hdg kk
theorem pf_X4_11 {X : CX} {bytes : ByteArray} {ret : Option FieldType} {fr lo mc ms n1 : Nat} {post : Option Value → HP → Prop} {n k sl pc : Nat} {h : HP} {L : List (Option Value)} {st : List Value} (hX : Cx X RX4 bytes ret fr lo mc ms n1 post) (hini : X.2.2.2.2.2.2.2.2.1.name = "<init>") {a b : Nat} {fs : List Value} (hdg : decode bytes pc = .ok (.putfield 11, 3)) (hh : h a = some (cO 4 fs)) (hlen : 0 < fs.length) (kk : AW X n (hset h a (cO 4 (fs.set 0 (.ref b)))) k sl (pc + 3) L st) : AW X n h k sl pc L (.ref b :: .ref a :: st) := aw_putF hX 0 rfl (C := RX4) (T := TX4) (N := 5) (ty := .array .int) (v := .ref b) rfl in_X4 tyX4 tyX4_ok nmX4 kf_X4_11 (by decide) rfl hini rfl (by decide +kernel) rfl rfl hh hlen hdg kk
theorem kf_X4_17 : Cond.fieldLink RX4 17 (TX4 1).1 (TX4 1).2.1 (TX4 1).2.2.1 ∈ tbG := tb_at 225 (by decide +kernel) (by decide +kernel)
theorem gt_X4_17 {X : CX} {bytes : ByteArray} {ret : Option FieldType} {fr lo mc ms n1 : Nat} {post : Option Value → HP → Prop} {n k sl pc : Nat} {h : HP} {L : List (Option Value)} {st : List Value} (hX : Cx X RX4 bytes ret fr lo mc ms n1 post) {a : Nat} {fs : List Value} {v : Value} (hdg : decode bytes pc = .ok (.getfield 17, 3)) (hh : h a = some (cO 4 fs)) (hv : fs[1]? = some v) (kk : AW X n h k sl (pc + 3) L (v :: st)) : AW X n h k sl pc L (.ref a :: st) := aw_get hX 1 rfl (C := RX4) (T := TX4) (N := 5) rfl in_X4 kf_X4_17 (by decide) hh hv hdg kk
theorem pf_X4_17 {X : CX} {bytes : ByteArray} {ret : Option FieldType} {fr lo mc ms n1 : Nat} {post : Option Value → HP → Prop} {n k sl pc : Nat} {h : HP} {L : List (Option Value)} {st : List Value} (hX : Cx X RX4 bytes ret fr lo mc ms n1 post) (hini : X.2.2.2.2.2.2.2.2.1.name = "<init>") {a b : Nat} {fs : List Value} (hdg : decode bytes pc = .ok (.putfield 17, 3)) (hh : h a = some (cO 4 fs)) (hlen : 1 < fs.length) (kk : AW X n (hset h a (cO 4 (fs.set 1 (.ref b)))) k sl (pc + 3) L st) : AW X n h k sl pc L (.ref b :: .ref a :: st) := aw_putF hX 1 rfl (C := RX4) (T := TX4) (N := 5) (ty := .array (.array .int)) (v := .ref b) rfl in_X4 tyX4 tyX4_ok nmX4 kf_X4_17 (by decide) rfl hini rfl (by decide +kernel) rfl rfl hh hlen hdg kk
theorem kf_X4_20 : Cond.fieldLink RX4 20 (TX4 2).1 (TX4 2).2.1 (TX4 2).2.2.1 ∈ tbG := tb_at 226 (by decide +kernel) (by decide +kernel)
theorem gt_X4_20 {X : CX} {bytes : ByteArray} {ret : Option FieldType} {fr lo mc ms n1 : Nat} {post : Option Value → HP → Prop} {n k sl pc : Nat} {h : HP} {L : List (Option Value)} {st : List Value} (hX : Cx X RX4 bytes ret fr lo mc ms n1 post) {a : Nat} {fs : List Value} {v : Value} (hdg : decode bytes pc = .ok (.getfield 20, 3)) (hh : h a = some (cO 4 fs)) (hv : fs[2]? = some v) (kk : AW X n h k sl (pc + 3) L (v :: st)) : AW X n h k sl pc L (.ref a :: st) := aw_get hX 2 rfl (C := RX4) (T := TX4) (N := 5) rfl in_X4 kf_X4_20 (by decide) hh hv hdg kk
theorem pf_X4_20 {X : CX} {bytes : ByteArray} {ret : Option FieldType} {fr lo mc ms n1 : Nat} {post : Option Value → HP → Prop} {n k sl pc : Nat} {h : HP} {L : List (Option Value)} {st : List Value} (hX : Cx X RX4 bytes ret fr lo mc ms n1 post) (hini : X.2.2.2.2.2.2.2.2.1.name = "<init>") {a b : Nat} {fs : List Value} (hdg : decode bytes pc = .ok (.putfield 20, 3)) (hh : h a = some (cO 4 fs)) (hlen : 2 < fs.length) (kk : AW X n (hset h a (cO 4 (fs.set 2 (.ref b)))) k sl (pc + 3) L st) : AW X n h k sl pc L (.ref b :: .ref a :: st) := aw_putF hX 2 rfl (C := RX4) (T := TX4) (N := 5) (ty := .array (.array .int)) (v := .ref b) rfl in_X4 tyX4 tyX4_ok nmX4 kf_X4_20 (by decide) rfl hini rfl (by decide +kernel) rfl rfl hh hlen hdg kk
theorem kf_X4_23 : Cond.fieldLink RX4 23 (TX4 3).1 (TX4 3).2.1 (TX4 3).2.2.1 ∈ tbG := tb_at 227 (by decide +kernel) (by decide +kernel)
theorem gt_X4_23 {X : CX} {bytes : ByteArray} {ret : Option FieldType} {fr lo mc ms n1 : Nat} {post : Option Value → HP → Prop} {n k sl pc : Nat} {h : HP} {L : List (Option Value)} {st : List Value} (hX : Cx X RX4 bytes ret fr lo mc ms n1 post) {a : Nat} {fs : List Value} {v : Value} (hdg : decode bytes pc = .ok (.getfield 23, 3)) (hh : h a = some (cO 4 fs)) (hv : fs[3]? = some v) (kk : AW X n h k sl (pc + 3) L (v :: st)) : AW X n h k sl pc L (.ref a :: st) := aw_get hX 3 rfl (C := RX4) (T := TX4) (N := 5) rfl in_X4 kf_X4_23 (by decide) hh hv hdg kk
theorem pf_X4_23 {X : CX} {bytes : ByteArray} {ret : Option FieldType} {fr lo mc ms n1 : Nat} {post : Option Value → HP → Prop} {n k sl pc : Nat} {h : HP} {L : List (Option Value)} {st : List Value} (hX : Cx X RX4 bytes ret fr lo mc ms n1 post) (hini : X.2.2.2.2.2.2.2.2.1.name = "<init>") {a b : Nat} {fs : List Value} (hdg : decode bytes pc = .ok (.putfield 23, 3)) (hh : h a = some (cO 4 fs)) (hlen : 3 < fs.length) (kk : AW X n (hset h a (cO 4 (fs.set 3 (.ref b)))) k sl (pc + 3) L st) : AW X n h k sl pc L (.ref b :: .ref a :: st) := aw_putF hX 3 rfl (C := RX4) (T := TX4) (N := 5) (ty := .array (.array .int)) (v := .ref b) rfl in_X4 tyX4 tyX4_ok nmX4 kf_X4_23 (by decide) rfl hini rfl (by decide +kernel) rfl rfl hh hlen hdg kk
theorem kf_X4_26 : Cond.fieldLink RX4 26 (TX4 4).1 (TX4 4).2.1 (TX4 4).2.2.1 ∈ tbG := tb_at 228 (by decide +kernel) (by decide +kernel)
theorem gt_X4_26 {X : CX} {bytes : ByteArray} {ret : Option FieldType} {fr lo mc ms n1 : Nat} {post : Option Value → HP → Prop} {n k sl pc : Nat} {h : HP} {L : List (Option Value)} {st : List Value} (hX : Cx X RX4 bytes ret fr lo mc ms n1 post) {a : Nat} {fs : List Value} {v : Value} (hdg : decode bytes pc = .ok (.getfield 26, 3)) (hh : h a = some (cO 4 fs)) (hv : fs[4]? = some v) (kk : AW X n h k sl (pc + 3) L (v :: st)) : AW X n h k sl pc L (.ref a :: st) := aw_get hX 4 rfl (C := RX4) (T := TX4) (N := 5) rfl in_X4 kf_X4_26 (by decide) hh hv hdg kk
theorem pt_X4_26 {X : CX} {bytes : ByteArray} {ret : Option FieldType} {fr lo mc ms n1 : Nat} {post : Option Value → HP → Prop} {n k sl pc : Nat} {h : HP} {L : List (Option Value)} {st : List Value} (hX : Cx X RX4 bytes ret fr lo mc ms n1 post) {a : Nat} {fs : List Value} {v : Int32} (hdg : decode bytes pc = .ok (.putfield 26, 3)) (hh : h a = some (cO 4 fs)) (hlen : 4 < fs.length) (kk : AW X n (hset h a (cO 4 (fs.set 4 (.int v)))) k sl (pc + 3) L st) : AW X n h k sl pc L (.int v :: .ref a :: st) := aw_put hX 4 rfl (C := RX4) (T := TX4) (N := 5) (ty := .int) rfl in_X4 tyX4 tyX4_ok nmX4 kf_X4_26 (by decide) rfl (by decide +kernel) rfl rfl hh hlen hdg kk
theorem kf_X9_10 : Cond.fieldLink RX9 10 (TX9 0).1 (TX9 0).2.1 (TX9 0).2.2.1 ∈ tbG := tb_at 240 (by decide +kernel) (by decide +kernel)
theorem gt_X9_10 {X : CX} {bytes : ByteArray} {ret : Option FieldType} {fr lo mc ms n1 : Nat} {post : Option Value → HP → Prop} {n k sl pc : Nat} {h : HP} {L : List (Option Value)} {st : List Value} (hX : Cx X RX9 bytes ret fr lo mc ms n1 post) {a : Nat} {fs : List Value} {v : Value} (hdg : decode bytes pc = .ok (.getfield 10, 3)) (hh : h a = some (cO 9 fs)) (hv : fs[0]? = some v) (kk : AW X n h k sl (pc + 3) L (v :: st)) : AW X n h k sl pc L (.ref a :: st) := aw_get hX 0 rfl (C := RX9) (T := TX9) (N := 9) rfl in_X9 kf_X9_10 (by decide) hh hv hdg kk
theorem pf_X9_10 {X : CX} {bytes : ByteArray} {ret : Option FieldType} {fr lo mc ms n1 : Nat} {post : Option Value → HP → Prop} {n k sl pc : Nat} {h : HP} {L : List (Option Value)} {st : List Value} (hX : Cx X RX9 bytes ret fr lo mc ms n1 post) (hini : X.2.2.2.2.2.2.2.2.1.name = "<init>") {a b : Nat} {fs : List Value} (hdg : decode bytes pc = .ok (.putfield 10, 3)) (hh : h a = some (cO 9 fs)) (hlen : 0 < fs.length) (kk : AW X n (hset h a (cO 9 (fs.set 0 (.ref b)))) k sl (pc + 3) L st) : AW X n h k sl pc L (.ref b :: .ref a :: st) := aw_putF hX 0 rfl (C := RX9) (T := TX9) (N := 9) (ty := .object "FlipBoard$State") (v := .ref b) rfl in_X9 tyX9 tyX9_ok nmX9 kf_X9_10 (by decide) rfl hini rfl (by decide +kernel) rfl rfl hh hlen hdg kk
theorem kf_X9_16 : Cond.fieldLink RX9 16 (TX9 1).1 (TX9 1).2.1 (TX9 1).2.2.1 ∈ tbG := tb_at 241 (by decide +kernel) (by decide +kernel)
theorem gt_X9_16 {X : CX} {bytes : ByteArray} {ret : Option FieldType} {fr lo mc ms n1 : Nat} {post : Option Value → HP → Prop} {n k sl pc : Nat} {h : HP} {L : List (Option Value)} {st : List Value} (hX : Cx X RX9 bytes ret fr lo mc ms n1 post) {a : Nat} {fs : List Value} {v : Value} (hdg : decode bytes pc = .ok (.getfield 16, 3)) (hh : h a = some (cO 9 fs)) (hv : fs[1]? = some v) (kk : AW X n h k sl (pc + 3) L (v :: st)) : AW X n h k sl pc L (.ref a :: st) := aw_get hX 1 rfl (C := RX9) (T := TX9) (N := 9) rfl in_X9 kf_X9_16 (by decide) hh hv hdg kk
theorem pf_X9_16 {X : CX} {bytes : ByteArray} {ret : Option FieldType} {fr lo mc ms n1 : Nat} {post : Option Value → HP → Prop} {n k sl pc : Nat} {h : HP} {L : List (Option Value)} {st : List Value} (hX : Cx X RX9 bytes ret fr lo mc ms n1 post) (hini : X.2.2.2.2.2.2.2.2.1.name = "<init>") {a b : Nat} {fs : List Value} (hdg : decode bytes pc = .ok (.putfield 16, 3)) (hh : h a = some (cO 9 fs)) (hlen : 1 < fs.length) (kk : AW X n (hset h a (cO 9 (fs.set 1 (.ref b)))) k sl (pc + 3) L st) : AW X n h k sl pc L (.ref b :: .ref a :: st) := aw_putF hX 1 rfl (C := RX9) (T := TX9) (N := 9) (ty := .object "FlipBoard$State") (v := .ref b) rfl in_X9 tyX9 tyX9_ok nmX9 kf_X9_16 (by decide) rfl hini rfl (by decide +kernel) rfl rfl hh hlen hdg kk
theorem kf_X9_22 : Cond.fieldLink RX9 22 (TX9 2).1 (TX9 2).2.1 (TX9 2).2.2.1 ∈ tbG := tb_at 242 (by decide +kernel) (by decide +kernel)
theorem gt_X9_22 {X : CX} {bytes : ByteArray} {ret : Option FieldType} {fr lo mc ms n1 : Nat} {post : Option Value → HP → Prop} {n k sl pc : Nat} {h : HP} {L : List (Option Value)} {st : List Value} (hX : Cx X RX9 bytes ret fr lo mc ms n1 post) {a : Nat} {fs : List Value} {v : Value} (hdg : decode bytes pc = .ok (.getfield 22, 3)) (hh : h a = some (cO 9 fs)) (hv : fs[2]? = some v) (kk : AW X n h k sl (pc + 3) L (v :: st)) : AW X n h k sl pc L (.ref a :: st) := aw_get hX 2 rfl (C := RX9) (T := TX9) (N := 9) rfl in_X9 kf_X9_22 (by decide) hh hv hdg kk
theorem pf_X9_22 {X : CX} {bytes : ByteArray} {ret : Option FieldType} {fr lo mc ms n1 : Nat} {post : Option Value → HP → Prop} {n k sl pc : Nat} {h : HP} {L : List (Option Value)} {st : List Value} (hX : Cx X RX9 bytes ret fr lo mc ms n1 post) (hini : X.2.2.2.2.2.2.2.2.1.name = "<init>") {a b : Nat} {fs : List Value} (hdg : decode bytes pc = .ok (.putfield 22, 3)) (hh : h a = some (cO 9 fs)) (hlen : 2 < fs.length) (kk : AW X n (hset h a (cO 9 (fs.set 2 (.ref b)))) k sl (pc + 3) L st) : AW X n h k sl pc L (.ref b :: .ref a :: st) := aw_putF hX 2 rfl (C := RX9) (T := TX9) (N := 9) (ty := .object "FlipBoard$History") (v := .ref b) rfl in_X9 tyX9 tyX9_ok nmX9 kf_X9_22 (by decide) rfl hini rfl (by decide +kernel) rfl rfl hh hlen hdg kk
theorem kf_X9_29 : Cond.fieldLink RX9 29 (TX9 3).1 (TX9 3).2.1 (TX9 3).2.2.1 ∈ tbG := tb_at 243 (by decide +kernel) (by decide +kernel)
theorem gt_X9_29 {X : CX} {bytes : ByteArray} {ret : Option FieldType} {fr lo mc ms n1 : Nat} {post : Option Value → HP → Prop} {n k sl pc : Nat} {h : HP} {L : List (Option Value)} {st : List Value} (hX : Cx X RX9 bytes ret fr lo mc ms n1 post) {a : Nat} {fs : List Value} {v : Value} (hdg : decode bytes pc = .ok (.getfield 29, 3)) (hh : h a = some (cO 9 fs)) (hv : fs[3]? = some v) (kk : AW X n h k sl (pc + 3) L (v :: st)) : AW X n h k sl pc L (.ref a :: st) := aw_get hX 3 rfl (C := RX9) (T := TX9) (N := 9) rfl in_X9 kf_X9_29 (by decide) hh hv hdg kk
theorem pf_X9_29 {X : CX} {bytes : ByteArray} {ret : Option FieldType} {fr lo mc ms n1 : Nat} {post : Option Value → HP → Prop} {n k sl pc : Nat} {h : HP} {L : List (Option Value)} {st : List Value} (hX : Cx X RX9 bytes ret fr lo mc ms n1 post) (hini : X.2.2.2.2.2.2.2.2.1.name = "<init>") {a b : Nat} {fs : List Value} (hdg : decode bytes pc = .ok (.putfield 29, 3)) (hh : h a = some (cO 9 fs)) (hlen : 3 < fs.length) (kk : AW X n (hset h a (cO 9 (fs.set 3 (.ref b)))) k sl (pc + 3) L st) : AW X n h k sl pc L (.ref b :: .ref a :: st) := aw_putF hX 3 rfl (C := RX9) (T := TX9) (N := 9) (ty := .object "FlipBoard$Painter") (v := .ref b) rfl in_X9 tyX9 tyX9_ok nmX9 kf_X9_29 (by decide) rfl hini rfl (by decide +kernel) rfl rfl hh hlen hdg kk
theorem kf_X9_36 : Cond.fieldLink RX9 36 (TX9 4).1 (TX9 4).2.1 (TX9 4).2.2.1 ∈ tbG := tb_at 244 (by decide +kernel) (by decide +kernel)
theorem gt_X9_36 {X : CX} {bytes : ByteArray} {ret : Option FieldType} {fr lo mc ms n1 : Nat} {post : Option Value → HP → Prop} {n k sl pc : Nat} {h : HP} {L : List (Option Value)} {st : List Value} (hX : Cx X RX9 bytes ret fr lo mc ms n1 post) {a : Nat} {fs : List Value} {v : Value} (hdg : decode bytes pc = .ok (.getfield 36, 3)) (hh : h a = some (cO 9 fs)) (hv : fs[4]? = some v) (kk : AW X n h k sl (pc + 3) L (v :: st)) : AW X n h k sl pc L (.ref a :: st) := aw_get hX 4 rfl (C := RX9) (T := TX9) (N := 9) rfl in_X9 kf_X9_36 (by decide) hh hv hdg kk
theorem pf_X9_36 {X : CX} {bytes : ByteArray} {ret : Option FieldType} {fr lo mc ms n1 : Nat} {post : Option Value → HP → Prop} {n k sl pc : Nat} {h : HP} {L : List (Option Value)} {st : List Value} (hX : Cx X RX9 bytes ret fr lo mc ms n1 post) (hini : X.2.2.2.2.2.2.2.2.1.name = "<init>") {a b : Nat} {fs : List Value} (hdg : decode bytes pc = .ok (.putfield 36, 3)) (hh : h a = some (cO 9 fs)) (hlen : 4 < fs.length) (kk : AW X n (hset h a (cO 9 (fs.set 4 (.ref b)))) k sl (pc + 3) L st) : AW X n h k sl pc L (.ref b :: .ref a :: st) := aw_putF hX 4 rfl (C := RX9) (T := TX9) (N := 9) (ty := .object "FlipBoard$Flipper") (v := .ref b) rfl in_X9 tyX9 tyX9_ok nmX9 kf_X9_36 (by decide) rfl hini rfl (by decide +kernel) rfl rfl hh hlen hdg kk
theorem kf_X9_43 : Cond.fieldLink RX9 43 (TX9 5).1 (TX9 5).2.1 (TX9 5).2.2.1 ∈ tbG := tb_at 245 (by decide +kernel) (by decide +kernel)
theorem gt_X9_43 {X : CX} {bytes : ByteArray} {ret : Option FieldType} {fr lo mc ms n1 : Nat} {post : Option Value → HP → Prop} {n k sl pc : Nat} {h : HP} {L : List (Option Value)} {st : List Value} (hX : Cx X RX9 bytes ret fr lo mc ms n1 post) {a : Nat} {fs : List Value} {v : Value} (hdg : decode bytes pc = .ok (.getfield 43, 3)) (hh : h a = some (cO 9 fs)) (hv : fs[5]? = some v) (kk : AW X n h k sl (pc + 3) L (v :: st)) : AW X n h k sl pc L (.ref a :: st) := aw_get hX 5 rfl (C := RX9) (T := TX9) (N := 9) rfl in_X9 kf_X9_43 (by decide) hh hv hdg kk
theorem pf_X9_43 {X : CX} {bytes : ByteArray} {ret : Option FieldType} {fr lo mc ms n1 : Nat} {post : Option Value → HP → Prop} {n k sl pc : Nat} {h : HP} {L : List (Option Value)} {st : List Value} (hX : Cx X RX9 bytes ret fr lo mc ms n1 post) (hini : X.2.2.2.2.2.2.2.2.1.name = "<init>") {a b : Nat} {fs : List Value} (hdg : decode bytes pc = .ok (.putfield 43, 3)) (hh : h a = some (cO 9 fs)) (hlen : 5 < fs.length) (kk : AW X n (hset h a (cO 9 (fs.set 5 (.ref b)))) k sl (pc + 3) L st) : AW X n h k sl pc L (.ref b :: .ref a :: st) := aw_putF hX 5 rfl (C := RX9) (T := TX9) (N := 9) (ty := .object "FlipBoard$Reader") (v := .ref b) rfl in_X9 tyX9 tyX9_ok nmX9 kf_X9_43 (by decide) rfl hini rfl (by decide +kernel) rfl rfl hh hlen hdg kk
theorem kf_X9_50 : Cond.fieldLink RX9 50 (TX9 6).1 (TX9 6).2.1 (TX9 6).2.2.1 ∈ tbG := tb_at 246 (by decide +kernel) (by decide +kernel)
theorem gt_X9_50 {X : CX} {bytes : ByteArray} {ret : Option FieldType} {fr lo mc ms n1 : Nat} {post : Option Value → HP → Prop} {n k sl pc : Nat} {h : HP} {L : List (Option Value)} {st : List Value} (hX : Cx X RX9 bytes ret fr lo mc ms n1 post) {a : Nat} {fs : List Value} {v : Value} (hdg : decode bytes pc = .ok (.getfield 50, 3)) (hh : h a = some (cO 9 fs)) (hv : fs[6]? = some v) (kk : AW X n h k sl (pc + 3) L (v :: st)) : AW X n h k sl pc L (.ref a :: st) := aw_get hX 6 rfl (C := RX9) (T := TX9) (N := 9) rfl in_X9 kf_X9_50 (by decide) hh hv hdg kk
theorem pf_X9_50 {X : CX} {bytes : ByteArray} {ret : Option FieldType} {fr lo mc ms n1 : Nat} {post : Option Value → HP → Prop} {n k sl pc : Nat} {h : HP} {L : List (Option Value)} {st : List Value} (hX : Cx X RX9 bytes ret fr lo mc ms n1 post) (hini : X.2.2.2.2.2.2.2.2.1.name = "<init>") {a b : Nat} {fs : List Value} (hdg : decode bytes pc = .ok (.putfield 50, 3)) (hh : h a = some (cO 9 fs)) (hlen : 6 < fs.length) (kk : AW X n (hset h a (cO 9 (fs.set 6 (.ref b)))) k sl (pc + 3) L st) : AW X n h k sl pc L (.ref b :: .ref a :: st) := aw_putF hX 6 rfl (C := RX9) (T := TX9) (N := 9) (ty := .object "FlipBoard$Orders") (v := .ref b) rfl in_X9 tyX9 tyX9_ok nmX9 kf_X9_50 (by decide) rfl hini rfl (by decide +kernel) rfl rfl hh hlen hdg kk
theorem kf_X9_54 : Cond.fieldLink RX9 54 (TX9 7).1 (TX9 7).2.1 (TX9 7).2.2.1 ∈ tbG := tb_at 247 (by decide +kernel) (by decide +kernel)
theorem gt_X9_54 {X : CX} {bytes : ByteArray} {ret : Option FieldType} {fr lo mc ms n1 : Nat} {post : Option Value → HP → Prop} {n k sl pc : Nat} {h : HP} {L : List (Option Value)} {st : List Value} (hX : Cx X RX9 bytes ret fr lo mc ms n1 post) {a : Nat} {fs : List Value} {v : Value} (hdg : decode bytes pc = .ok (.getfield 54, 3)) (hh : h a = some (cO 9 fs)) (hv : fs[7]? = some v) (kk : AW X n h k sl (pc + 3) L (v :: st)) : AW X n h k sl pc L (.ref a :: st) := aw_get hX 7 rfl (C := RX9) (T := TX9) (N := 9) rfl in_X9 kf_X9_54 (by decide) hh hv hdg kk
theorem pf_X9_54 {X : CX} {bytes : ByteArray} {ret : Option FieldType} {fr lo mc ms n1 : Nat} {post : Option Value → HP → Prop} {n k sl pc : Nat} {h : HP} {L : List (Option Value)} {st : List Value} (hX : Cx X RX9 bytes ret fr lo mc ms n1 post) (hini : X.2.2.2.2.2.2.2.2.1.name = "<init>") {a b : Nat} {fs : List Value} (hdg : decode bytes pc = .ok (.putfield 54, 3)) (hh : h a = some (cO 9 fs)) (hlen : 7 < fs.length) (kk : AW X n (hset h a (cO 9 (fs.set 7 (.ref b)))) k sl (pc + 3) L st) : AW X n h k sl pc L (.ref b :: .ref a :: st) := aw_putF hX 7 rfl (C := RX9) (T := TX9) (N := 9) (ty := .array .int) (v := .ref b) rfl in_X9 tyX9 tyX9_ok nmX9 kf_X9_54 (by decide) rfl hini rfl (by decide +kernel) rfl rfl hh hlen hdg kk
theorem kf_X9_58 : Cond.fieldLink RX9 58 (TX9 8).1 (TX9 8).2.1 (TX9 8).2.2.1 ∈ tbG := tb_at 248 (by decide +kernel) (by decide +kernel)
theorem gt_X9_58 {X : CX} {bytes : ByteArray} {ret : Option FieldType} {fr lo mc ms n1 : Nat} {post : Option Value → HP → Prop} {n k sl pc : Nat} {h : HP} {L : List (Option Value)} {st : List Value} (hX : Cx X RX9 bytes ret fr lo mc ms n1 post) {a : Nat} {fs : List Value} {v : Value} (hdg : decode bytes pc = .ok (.getfield 58, 3)) (hh : h a = some (cO 9 fs)) (hv : fs[8]? = some v) (kk : AW X n h k sl (pc + 3) L (v :: st)) : AW X n h k sl pc L (.ref a :: st) := aw_get hX 8 rfl (C := RX9) (T := TX9) (N := 9) rfl in_X9 kf_X9_58 (by decide) hh hv hdg kk
theorem pt_X9_58 {X : CX} {bytes : ByteArray} {ret : Option FieldType} {fr lo mc ms n1 : Nat} {post : Option Value → HP → Prop} {n k sl pc : Nat} {h : HP} {L : List (Option Value)} {st : List Value} (hX : Cx X RX9 bytes ret fr lo mc ms n1 post) {a : Nat} {fs : List Value} {v : Int32} (hdg : decode bytes pc = .ok (.putfield 58, 3)) (hh : h a = some (cO 9 fs)) (hlen : 8 < fs.length) (kk : AW X n (hset h a (cO 9 (fs.set 8 (.int v)))) k sl (pc + 3) L st) : AW X n h k sl pc L (.int v :: .ref a :: st) := aw_put hX 8 rfl (C := RX9) (T := TX9) (N := 9) (ty := .int) rfl in_X9 tyX9 tyX9_ok nmX9 kf_X9_58 (by decide) rfl (by decide +kernel) rfl rfl hh hlen hdg kk
theorem kf_X9_91 : Cond.fieldLink RX9 91 RX9 "LEAST_NUMBERS" "[I" ∈ tbG := tb_at 392 (by decide +kernel) (by decide +kernel)
theorem kf_X9_94 : Cond.fieldLink RX9 94 RX9 "MOST_NUMBERS" "[I" ∈ tbG := tb_at 394 (by decide +kernel) (by decide +kernel)
theorem kn_X8_32 : Cond.fieldLinkNest RX8 32 RX9 "FIRST_NUMBERS" "[I" "FlipBoard" ∈ lw_tbl := List.mem_of_getElem? (i := 117) (by decide +kernel)
theorem kn_X5_55 : Cond.fieldLinkNest RX5 55 RX9 "SHIFTS" "[I" "FlipBoard" ∈ lw_tbl := List.mem_of_getElem? (i := 442) (by decide +kernel)
theorem mf_X9_init : MF yX9_init cX9_init 1 none 0 := ⟨tb_at 23 (by decide +kernel) (by decide +kernel), tb_at 5 (by decide +kernel) (by decide +kernel), by decide +kernel, by decide +kernel⟩
theorem mi_X9_init : Cond.instanceMethod yX9_init ∈ tbG := tb_at 22 (by decide +kernel) (by decide +kernel)
theorem mf_X8_init : MF yX8_init cX8_init 1 none 0 := ⟨tb_at 31 (by decide +kernel) (by decide +kernel), tb_at 6 (by decide +kernel) (by decide +kernel), by decide +kernel, by decide +kernel⟩
theorem mi_X8_init : Cond.instanceMethod yX8_init ∈ tbG := tb_at 30 (by decide +kernel) (by decide +kernel)
theorem mf_X0_init : MF yX0_init cX0_init 1 none 0 := ⟨tb_at 37 (by decide +kernel) (by decide +kernel), tb_at 7 (by decide +kernel) (by decide +kernel), by decide +kernel, by decide +kernel⟩
theorem mi_X0_init : Cond.instanceMethod yX0_init ∈ tbG := tb_at 36 (by decide +kernel) (by decide +kernel)
theorem mf_X3_init : MF yX3_init cX3_init 1 none 0 := ⟨tb_at 70 (by decide +kernel) (by decide +kernel), tb_at 8 (by decide +kernel) (by decide +kernel), by decide +kernel, by decide +kernel⟩
theorem mi_X3_init : Cond.instanceMethod yX3_init ∈ tbG := tb_at 69 (by decide +kernel) (by decide +kernel)
theorem mf_X7_init : MF yX7_init cX7_init 1 none 0 := ⟨tb_at 98 (by decide +kernel) (by decide +kernel), tb_at 9 (by decide +kernel) (by decide +kernel), by decide +kernel, by decide +kernel⟩
theorem mi_X7_init : Cond.instanceMethod yX7_init ∈ tbG := tb_at 97 (by decide +kernel) (by decide +kernel)
theorem mf_X2_init : MF yX2_init cX2_init 2 none 0 := ⟨tb_at 152 (by decide +kernel) (by decide +kernel), tb_at 10 (by decide +kernel) (by decide +kernel), by decide +kernel, by decide +kernel⟩
theorem mi_X2_init : Cond.instanceMethod yX2_init ∈ tbG := tb_at 151 (by decide +kernel) (by decide +kernel)
theorem mf_X5_init : MF yX5_init cX5_init 1 none 0 := ⟨tb_at 172 (by decide +kernel) (by decide +kernel), tb_at 11 (by decide +kernel) (by decide +kernel), by decide +kernel, by decide +kernel⟩
theorem mi_X5_init : Cond.instanceMethod yX5_init ∈ tbG := tb_at 171 (by decide +kernel) (by decide +kernel)
theorem mf_X1_init : MF yX1_init cX1_init 1 none 0 := ⟨tb_at 186 (by decide +kernel) (by decide +kernel), tb_at 12 (by decide +kernel) (by decide +kernel), by decide +kernel, by decide +kernel⟩
theorem mi_X1_init : Cond.instanceMethod yX1_init ∈ tbG := tb_at 185 (by decide +kernel) (by decide +kernel)
theorem mf_X6_init : MF yX6_init cX6_init 1 none 0 := ⟨tb_at 196 (by decide +kernel) (by decide +kernel), tb_at 13 (by decide +kernel) (by decide +kernel), by decide +kernel, by decide +kernel⟩
theorem mi_X6_init : Cond.instanceMethod yX6_init ∈ tbG := tb_at 195 (by decide +kernel) (by decide +kernel)
theorem mf_X4_init : MF yX4_init cX4_init 1 none 0 := ⟨tb_at 220 (by decide +kernel) (by decide +kernel), tb_at 14 (by decide +kernel) (by decide +kernel), by decide +kernel, by decide +kernel⟩
theorem mi_X4_init : Cond.instanceMethod yX4_init ∈ tbG := tb_at 219 (by decide +kernel) (by decide +kernel)
theorem mf_X9_begin : MF yX9_begin cX9_begin 3 (some .int) 1 := ⟨tb_at 271 (by decide +kernel) (by decide +kernel), tb_at 5 (by decide +kernel) (by decide +kernel), by decide +kernel, by decide +kernel⟩
theorem mi_X9_begin : Cond.instanceMethod yX9_begin ∈ tbG := tb_at 269 (by decide +kernel) (by decide +kernel)
theorem ms_X9_begin : Cond.selects yX9_begin.cls yX9_begin yX9_begin ∈ tbG := tb_at 270 (by decide +kernel) (by decide +kernel)
theorem mf_X2_keep : MF yX2_keep cX2_keep 3 none 1 := ⟨tb_at 275 (by decide +kernel) (by decide +kernel), tb_at 10 (by decide +kernel) (by decide +kernel), by decide +kernel, by decide +kernel⟩
theorem mi_X2_keep : Cond.instanceMethod yX2_keep ∈ tbG := tb_at 273 (by decide +kernel) (by decide +kernel)
theorem ms_X2_keep : Cond.selects yX2_keep.cls yX2_keep yX2_keep ∈ tbG := tb_at 274 (by decide +kernel) (by decide +kernel)
theorem mf_X2_stateAt : MF yX2_stateAt cX2_stateAt 2 (some (.object "FlipBoard$State")) 1 := ⟨tb_at 279 (by decide +kernel) (by decide +kernel), tb_at 10 (by decide +kernel) (by decide +kernel), by decide +kernel, by decide +kernel⟩
theorem mi_X2_stateAt : Cond.instanceMethod yX2_stateAt ∈ tbG := tb_at 277 (by decide +kernel) (by decide +kernel)
theorem ms_X2_stateAt : Cond.selects yX2_stateAt.cls yX2_stateAt yX2_stateAt ∈ tbG := tb_at 278 (by decide +kernel) (by decide +kernel)
theorem mf_J9_floorMod_7cf53 : MF yJ9_floorMod_7cf53 cJ9_floorMod_7cf53 3 (some .int) 2 := ⟨tb_at 282 (by decide +kernel) (by decide +kernel), tb_at 15 (by decide +kernel) (by decide +kernel), by decide +kernel, by decide +kernel⟩
theorem mt_J9_floorMod_7cf53 : Cond.static yJ9_floorMod_7cf53 ∈ tbG := tb_at 281 (by decide +kernel) (by decide +kernel)
theorem mf_X8_copyFrom : MF yX8_copyFrom cX8_copyFrom 2 none 1 := ⟨tb_at 286 (by decide +kernel) (by decide +kernel), tb_at 6 (by decide +kernel) (by decide +kernel), by decide +kernel, by decide +kernel⟩
theorem mi_X8_copyFrom : Cond.instanceMethod yX8_copyFrom ∈ tbG := tb_at 284 (by decide +kernel) (by decide +kernel)
theorem ms_X8_copyFrom : Cond.selects yX8_copyFrom.cls yX8_copyFrom yX8_copyFrom ∈ tbG := tb_at 285 (by decide +kernel) (by decide +kernel)
theorem mf_X0_copyFrom : MF yX0_copyFrom cX0_copyFrom 2 none 1 := ⟨tb_at 290 (by decide +kernel) (by decide +kernel), tb_at 7 (by decide +kernel) (by decide +kernel), by decide +kernel, by decide +kernel⟩
theorem mi_X0_copyFrom : Cond.instanceMethod yX0_copyFrom ∈ tbG := tb_at 288 (by decide +kernel) (by decide +kernel)
theorem ms_X0_copyFrom : Cond.selects yX0_copyFrom.cls yX0_copyFrom yX0_copyFrom ∈ tbG := tb_at 289 (by decide +kernel) (by decide +kernel)
theorem mf_X9_copy : MF yX9_copy cX9_copy 2 none 2 := ⟨tb_at 293 (by decide +kernel) (by decide +kernel), tb_at 5 (by decide +kernel) (by decide +kernel), by decide +kernel, by decide +kernel⟩
theorem mt_X9_copy : Cond.static yX9_copy ∈ tbG := tb_at 292 (by decide +kernel) (by decide +kernel)
theorem mf_J9_min_7cf53 : MF yJ9_min_7cf53 cJ9_min_7cf53 2 (some .int) 2 := ⟨tb_at 296 (by decide +kernel) (by decide +kernel), tb_at 15 (by decide +kernel) (by decide +kernel), by decide +kernel, by decide +kernel⟩
theorem mt_J9_min_7cf53 : Cond.static yJ9_min_7cf53 ∈ tbG := tb_at 295 (by decide +kernel) (by decide +kernel)
theorem mf_X3_copyFrom : MF yX3_copyFrom cX3_copyFrom 2 none 1 := ⟨tb_at 303 (by decide +kernel) (by decide +kernel), tb_at 8 (by decide +kernel) (by decide +kernel), by decide +kernel, by decide +kernel⟩
theorem mi_X3_copyFrom : Cond.instanceMethod yX3_copyFrom ∈ tbG := tb_at 301 (by decide +kernel) (by decide +kernel)
theorem ms_X3_copyFrom : Cond.selects yX3_copyFrom.cls yX3_copyFrom yX3_copyFrom ∈ tbG := tb_at 302 (by decide +kernel) (by decide +kernel)
theorem mf_X7_copyFrom : MF yX7_copyFrom cX7_copyFrom 2 none 1 := ⟨tb_at 308 (by decide +kernel) (by decide +kernel), tb_at 9 (by decide +kernel) (by decide +kernel), by decide +kernel, by decide +kernel⟩
theorem mi_X7_copyFrom : Cond.instanceMethod yX7_copyFrom ∈ tbG := tb_at 306 (by decide +kernel) (by decide +kernel)
theorem ms_X7_copyFrom : Cond.selects yX7_copyFrom.cls yX7_copyFrom yX7_copyFrom ∈ tbG := tb_at 307 (by decide +kernel) (by decide +kernel)
theorem mf_X0_renew : MF yX0_renew cX0_renew 2 none 1 := ⟨tb_at 314 (by decide +kernel) (by decide +kernel), tb_at 7 (by decide +kernel) (by decide +kernel), by decide +kernel, by decide +kernel⟩
theorem mi_X0_renew : Cond.instanceMethod yX0_renew ∈ tbG := tb_at 312 (by decide +kernel) (by decide +kernel)
theorem ms_X0_renew : Cond.selects yX0_renew.cls yX0_renew yX0_renew ∈ tbG := tb_at 313 (by decide +kernel) (by decide +kernel)
theorem mf_J7_fill_53178 : MF yJ7_fill_53178 cJ7_fill_53178 4 none 2 := ⟨tb_at 317 (by decide +kernel) (by decide +kernel), tb_at 17 (by decide +kernel) (by decide +kernel), by decide +kernel, by decide +kernel⟩
theorem mt_J7_fill_53178 : Cond.static yJ7_fill_53178 ∈ tbG := tb_at 316 (by decide +kernel) (by decide +kernel)
theorem mf_X3_renew : MF yX3_renew cX3_renew 1 none 0 := ⟨tb_at 321 (by decide +kernel) (by decide +kernel), tb_at 8 (by decide +kernel) (by decide +kernel), by decide +kernel, by decide +kernel⟩
theorem mi_X3_renew : Cond.instanceMethod yX3_renew ∈ tbG := tb_at 319 (by decide +kernel) (by decide +kernel)
theorem ms_X3_renew : Cond.selects yX3_renew.cls yX3_renew yX3_renew ∈ tbG := tb_at 320 (by decide +kernel) (by decide +kernel)
theorem mf_X9_column : MF yX9_column cX9_column 3 (some .int) 2 := ⟨tb_at 326 (by decide +kernel) (by decide +kernel), tb_at 5 (by decide +kernel) (by decide +kernel), by decide +kernel, by decide +kernel⟩
theorem mi_X9_column : Cond.instanceMethod yX9_column ∈ tbG := tb_at 324 (by decide +kernel) (by decide +kernel)
theorem ms_X9_column : Cond.selects yX9_column.cls yX9_column yX9_column ∈ tbG := tb_at 325 (by decide +kernel) (by decide +kernel)
theorem mf_X0_hasColumn : MF yX0_hasColumn cX0_hasColumn 2 (some .boolean) 1 := ⟨tb_at 330 (by decide +kernel) (by decide +kernel), tb_at 7 (by decide +kernel) (by decide +kernel), by decide +kernel, by decide +kernel⟩
theorem mi_X0_hasColumn : Cond.instanceMethod yX0_hasColumn ∈ tbG := tb_at 328 (by decide +kernel) (by decide +kernel)
theorem ms_X0_hasColumn : Cond.selects yX0_hasColumn.cls yX0_hasColumn yX0_hasColumn ∈ tbG := tb_at 329 (by decide +kernel) (by decide +kernel)
theorem mf_X9_strip : MF yX9_strip cX9_strip 2 (some .int) 1 := ⟨tb_at 334 (by decide +kernel) (by decide +kernel), tb_at 5 (by decide +kernel) (by decide +kernel), by decide +kernel, by decide +kernel⟩
theorem mi_X9_strip : Cond.instanceMethod yX9_strip ∈ tbG := tb_at 332 (by decide +kernel) (by decide +kernel)
theorem ms_X9_strip : Cond.selects yX9_strip.cls yX9_strip yX9_strip ∈ tbG := tb_at 333 (by decide +kernel) (by decide +kernel)
theorem mf_X7_hasMessage : MF yX7_hasMessage cX7_hasMessage 2 (some .boolean) 1 := ⟨tb_at 338 (by decide +kernel) (by decide +kernel), tb_at 9 (by decide +kernel) (by decide +kernel), by decide +kernel, by decide +kernel⟩
theorem mi_X7_hasMessage : Cond.instanceMethod yX7_hasMessage ∈ tbG := tb_at 336 (by decide +kernel) (by decide +kernel)
theorem ms_X7_hasMessage : Cond.selects yX7_hasMessage.cls yX7_hasMessage yX7_hasMessage ∈ tbG := tb_at 337 (by decide +kernel) (by decide +kernel)
theorem mf_X7_stripColumns : MF yX7_stripColumns cX7_stripColumns 5 (some .int) 1 := ⟨tb_at 342 (by decide +kernel) (by decide +kernel), tb_at 9 (by decide +kernel) (by decide +kernel), by decide +kernel, by decide +kernel⟩
theorem mi_X7_stripColumns : Cond.instanceMethod yX7_stripColumns ∈ tbG := tb_at 340 (by decide +kernel) (by decide +kernel)
theorem ms_X7_stripColumns : Cond.selects yX7_stripColumns.cls yX7_stripColumns yX7_stripColumns ∈ tbG := tb_at 341 (by decide +kernel) (by decide +kernel)
theorem mf_X7_lengthOf : MF yX7_lengthOf cX7_lengthOf 2 (some .int) 1 := ⟨tb_at 346 (by decide +kernel) (by decide +kernel), tb_at 9 (by decide +kernel) (by decide +kernel), by decide +kernel, by decide +kernel⟩
theorem mi_X7_lengthOf : Cond.instanceMethod yX7_lengthOf ∈ tbG := tb_at 344 (by decide +kernel) (by decide +kernel)
theorem ms_X7_lengthOf : Cond.selects yX7_lengthOf.cls yX7_lengthOf yX7_lengthOf ∈ tbG := tb_at 345 (by decide +kernel) (by decide +kernel)
theorem mf_J9_max_7cf53 : MF yJ9_max_7cf53 cJ9_max_7cf53 2 (some .int) 2 := ⟨tb_at 350 (by decide +kernel) (by decide +kernel), tb_at 15 (by decide +kernel) (by decide +kernel), by decide +kernel, by decide +kernel⟩
theorem mt_J9_max_7cf53 : Cond.static yJ9_max_7cf53 ∈ tbG := tb_at 349 (by decide +kernel) (by decide +kernel)
theorem mf_X7_characterOf : MF yX7_characterOf cX7_characterOf 4 (some .int) 2 := ⟨tb_at 354 (by decide +kernel) (by decide +kernel), tb_at 9 (by decide +kernel) (by decide +kernel), by decide +kernel, by decide +kernel⟩
theorem mi_X7_characterOf : Cond.instanceMethod yX7_characterOf ∈ tbG := tb_at 352 (by decide +kernel) (by decide +kernel)
theorem ms_X7_characterOf : Cond.selects yX7_characterOf.cls yX7_characterOf yX7_characterOf ∈ tbG := tb_at 353 (by decide +kernel) (by decide +kernel)
theorem mf_X7_widthOf : MF yX7_widthOf cX7_widthOf 2 (some .int) 1 := ⟨tb_at 358 (by decide +kernel) (by decide +kernel), tb_at 9 (by decide +kernel) (by decide +kernel), by decide +kernel, by decide +kernel⟩
theorem mi_X7_widthOf : Cond.instanceMethod yX7_widthOf ∈ tbG := tb_at 356 (by decide +kernel) (by decide +kernel)
theorem ms_X7_widthOf : Cond.selects yX7_widthOf.cls yX7_widthOf yX7_widthOf ∈ tbG := tb_at 357 (by decide +kernel) (by decide +kernel)
theorem mf_X7_isLetter : MF yX7_isLetter cX7_isLetter 2 (some .boolean) 1 := ⟨tb_at 362 (by decide +kernel) (by decide +kernel), tb_at 9 (by decide +kernel) (by decide +kernel), by decide +kernel, by decide +kernel⟩
theorem mi_X7_isLetter : Cond.instanceMethod yX7_isLetter ∈ tbG := tb_at 360 (by decide +kernel) (by decide +kernel)
theorem ms_X7_isLetter : Cond.selects yX7_isLetter.cls yX7_isLetter yX7_isLetter ∈ tbG := tb_at 361 (by decide +kernel) (by decide +kernel)
theorem mf_X9_power : MF yX9_power cX9_power 2 (some .int) 1 := ⟨tb_at 366 (by decide +kernel) (by decide +kernel), tb_at 5 (by decide +kernel) (by decide +kernel), by decide +kernel, by decide +kernel⟩
theorem mi_X9_power : Cond.instanceMethod yX9_power ∈ tbG := tb_at 364 (by decide +kernel) (by decide +kernel)
theorem ms_X9_power : Cond.selects yX9_power.cls yX9_power yX9_power ∈ tbG := tb_at 365 (by decide +kernel) (by decide +kernel)
theorem mf_X3_powerOf : MF yX3_powerOf cX3_powerOf 2 (some .int) 1 := ⟨tb_at 370 (by decide +kernel) (by decide +kernel), tb_at 8 (by decide +kernel) (by decide +kernel), by decide +kernel, by decide +kernel⟩
theorem mi_X3_powerOf : Cond.instanceMethod yX3_powerOf ∈ tbG := tb_at 368 (by decide +kernel) (by decide +kernel)
theorem ms_X3_powerOf : Cond.selects yX3_powerOf.cls yX3_powerOf yX3_powerOf ∈ tbG := tb_at 369 (by decide +kernel) (by decide +kernel)
theorem mf_L_cell : MF yL_cell cL_cell 2 (some .int) 2 := ⟨tb_at 374 (by decide +kernel) (by decide +kernel), tb_at 4 (by decide +kernel) (by decide +kernel), by decide +kernel, by decide +kernel⟩
theorem mt_L_cell : Cond.static yL_cell ∈ tbG := tb_at 373 (by decide +kernel) (by decide +kernel)
theorem mf_L_low : MF yL_low cL_low 2 (some .int) 2 := ⟨tb_at 378 (by decide +kernel) (by decide +kernel), tb_at 4 (by decide +kernel) (by decide +kernel), by decide +kernel, by decide +kernel⟩
theorem mt_L_low : Cond.static yL_low ∈ tbG := tb_at 377 (by decide +kernel) (by decide +kernel)
theorem mf_L_acts : MF yL_acts cL_acts 26 (some .boolean) 7 := ⟨tb_at 382 (by decide +kernel) (by decide +kernel), tb_at 4 (by decide +kernel) (by decide +kernel), by decide +kernel, by decide +kernel⟩
theorem mt_L_acts : Cond.static yL_acts ∈ tbG := tb_at 381 (by decide +kernel) (by decide +kernel)
theorem mf_X9_setNumber : MF yX9_setNumber cX9_setNumber 4 (some .int) 2 := ⟨tb_at 387 (by decide +kernel) (by decide +kernel), tb_at 5 (by decide +kernel) (by decide +kernel), by decide +kernel, by decide +kernel⟩
theorem mi_X9_setNumber : Cond.instanceMethod yX9_setNumber ∈ tbG := tb_at 385 (by decide +kernel) (by decide +kernel)
theorem ms_X9_setNumber : Cond.selects yX9_setNumber.cls yX9_setNumber yX9_setNumber ∈ tbG := tb_at 386 (by decide +kernel) (by decide +kernel)
theorem mf_X8_hasNumber : MF yX8_hasNumber cX8_hasNumber 2 (some .boolean) 1 := ⟨tb_at 391 (by decide +kernel) (by decide +kernel), tb_at 6 (by decide +kernel) (by decide +kernel), by decide +kernel, by decide +kernel⟩
theorem mi_X8_hasNumber : Cond.instanceMethod yX8_hasNumber ∈ tbG := tb_at 389 (by decide +kernel) (by decide +kernel)
theorem ms_X8_hasNumber : Cond.selects yX8_hasNumber.cls yX8_hasNumber yX8_hasNumber ∈ tbG := tb_at 390 (by decide +kernel) (by decide +kernel)
theorem mf_X9_setColumn : MF yX9_setColumn cX9_setColumn 4 (some .int) 3 := ⟨tb_at 399 (by decide +kernel) (by decide +kernel), tb_at 5 (by decide +kernel) (by decide +kernel), by decide +kernel, by decide +kernel⟩
theorem mi_X9_setColumn : Cond.instanceMethod yX9_setColumn ∈ tbG := tb_at 397 (by decide +kernel) (by decide +kernel)
theorem ms_X9_setColumn : Cond.selects yX9_setColumn.cls yX9_setColumn yX9_setColumn ∈ tbG := tb_at 398 (by decide +kernel) (by decide +kernel)
theorem mf_X7_putColumn : MF yX7_putColumn cX7_putColumn 4 none 3 := ⟨tb_at 404 (by decide +kernel) (by decide +kernel), tb_at 9 (by decide +kernel) (by decide +kernel), by decide +kernel, by decide +kernel⟩
theorem mi_X7_putColumn : Cond.instanceMethod yX7_putColumn ∈ tbG := tb_at 402 (by decide +kernel) (by decide +kernel)
theorem ms_X7_putColumn : Cond.selects yX7_putColumn.cls yX7_putColumn yX7_putColumn ∈ tbG := tb_at 403 (by decide +kernel) (by decide +kernel)
theorem mf_X9_addMessage : MF yX9_addMessage cX9_addMessage 3 (some .int) 2 := ⟨tb_at 408 (by decide +kernel) (by decide +kernel), tb_at 5 (by decide +kernel) (by decide +kernel), by decide +kernel, by decide +kernel⟩
theorem mi_X9_addMessage : Cond.instanceMethod yX9_addMessage ∈ tbG := tb_at 406 (by decide +kernel) (by decide +kernel)
theorem ms_X9_addMessage : Cond.selects yX9_addMessage.cls yX9_addMessage yX9_addMessage ∈ tbG := tb_at 407 (by decide +kernel) (by decide +kernel)
theorem mf_X7_startMessage : MF yX7_startMessage cX7_startMessage 1 none 0 := ⟨tb_at 412 (by decide +kernel) (by decide +kernel), tb_at 9 (by decide +kernel) (by decide +kernel), by decide +kernel, by decide +kernel⟩
theorem mi_X7_startMessage : Cond.instanceMethod yX7_startMessage ∈ tbG := tb_at 410 (by decide +kernel) (by decide +kernel)
theorem ms_X7_startMessage : Cond.selects yX7_startMessage.cls yX7_startMessage yX7_startMessage ∈ tbG := tb_at 411 (by decide +kernel) (by decide +kernel)
theorem mf_X7_addCharacter : MF yX7_addCharacter cX7_addCharacter 4 none 1 := ⟨tb_at 416 (by decide +kernel) (by decide +kernel), tb_at 9 (by decide +kernel) (by decide +kernel), by decide +kernel, by decide +kernel⟩
theorem mi_X7_addCharacter : Cond.instanceMethod yX7_addCharacter ∈ tbG := tb_at 414 (by decide +kernel) (by decide +kernel)
theorem ms_X7_addCharacter : Cond.selects yX7_addCharacter.cls yX7_addCharacter yX7_addCharacter ∈ tbG := tb_at 415 (by decide +kernel) (by decide +kernel)
theorem mf_X9_removeMessage : MF yX9_removeMessage cX9_removeMessage 2 (some .int) 1 := ⟨tb_at 420 (by decide +kernel) (by decide +kernel), tb_at 5 (by decide +kernel) (by decide +kernel), by decide +kernel, by decide +kernel⟩
theorem mi_X9_removeMessage : Cond.instanceMethod yX9_removeMessage ∈ tbG := tb_at 418 (by decide +kernel) (by decide +kernel)
theorem ms_X9_removeMessage : Cond.selects yX9_removeMessage.cls yX9_removeMessage yX9_removeMessage ∈ tbG := tb_at 419 (by decide +kernel) (by decide +kernel)
theorem mf_X7_dropMessage : MF yX7_dropMessage cX7_dropMessage 5 none 1 := ⟨tb_at 424 (by decide +kernel) (by decide +kernel), tb_at 9 (by decide +kernel) (by decide +kernel), by decide +kernel, by decide +kernel⟩
theorem mi_X7_dropMessage : Cond.instanceMethod yX7_dropMessage ∈ tbG := tb_at 422 (by decide +kernel) (by decide +kernel)
theorem ms_X7_dropMessage : Cond.selects yX7_dropMessage.cls yX7_dropMessage yX7_dropMessage ∈ tbG := tb_at 423 (by decide +kernel) (by decide +kernel)
theorem mf_X9_show : MF yX9_show cX9_show 3 (some .int) 2 := ⟨tb_at 428 (by decide +kernel) (by decide +kernel), tb_at 5 (by decide +kernel) (by decide +kernel), by decide +kernel, by decide +kernel⟩
theorem mi_X9_show : Cond.instanceMethod yX9_show ∈ tbG := tb_at 426 (by decide +kernel) (by decide +kernel)
theorem ms_X9_show : Cond.selects yX9_show.cls yX9_show yX9_show ∈ tbG := tb_at 427 (by decide +kernel) (by decide +kernel)
theorem mf_X9_canShow : MF yX9_canShow cX9_canShow 3 (some .boolean) 2 := ⟨tb_at 432 (by decide +kernel) (by decide +kernel), tb_at 5 (by decide +kernel) (by decide +kernel), by decide +kernel, by decide +kernel⟩
theorem mi_X9_canShow : Cond.instanceMethod yX9_canShow ∈ tbG := tb_at 431 (by decide +kernel) (by decide +kernel)
theorem ms_X9_canShow : Cond.selects yX9_canShow.cls yX9_canShow yX9_canShow ∈ tbG := tb_at 0 (by decide +kernel) (by decide +kernel)
theorem mf_X5_drawAs : MF yX5_drawAs cX5_drawAs 5 none 3 := ⟨tb_at 436 (by decide +kernel) (by decide +kernel), tb_at 11 (by decide +kernel) (by decide +kernel), by decide +kernel, by decide +kernel⟩
theorem mi_X5_drawAs : Cond.instanceMethod yX5_drawAs ∈ tbG := tb_at 434 (by decide +kernel) (by decide +kernel)
theorem ms_X5_drawAs : Cond.selects yX5_drawAs.cls yX5_drawAs yX5_drawAs ∈ tbG := tb_at 435 (by decide +kernel) (by decide +kernel)
theorem mf_X5_bestShiftOf : MF yX5_bestShiftOf cX5_bestShiftOf 12 (some .int) 2 := ⟨tb_at 440 (by decide +kernel) (by decide +kernel), tb_at 11 (by decide +kernel) (by decide +kernel), by decide +kernel, by decide +kernel⟩
theorem mi_X5_bestShiftOf : Cond.instanceMethod yX5_bestShiftOf ∈ tbG := tb_at 438 (by decide +kernel) (by decide +kernel)
theorem ms_X5_bestShiftOf : Cond.selects yX5_bestShiftOf.cls yX5_bestShiftOf yX5_bestShiftOf ∈ tbG := tb_at 439 (by decide +kernel) (by decide +kernel)
theorem mf_X5_draw : MF yX5_draw cX5_draw 9 none 4 := ⟨tb_at 447 (by decide +kernel) (by decide +kernel), tb_at 11 (by decide +kernel) (by decide +kernel), by decide +kernel, by decide +kernel⟩
theorem mi_X5_draw : Cond.instanceMethod yX5_draw ∈ tbG := tb_at 445 (by decide +kernel) (by decide +kernel)
theorem ms_X5_draw : Cond.selects yX5_draw.cls yX5_draw yX5_draw ∈ tbG := tb_at 446 (by decide +kernel) (by decide +kernel)
theorem mf_X7_stripBits : MF yX7_stripBits cX7_stripBits 7 (some .int) 2 := ⟨tb_at 452 (by decide +kernel) (by decide +kernel), tb_at 9 (by decide +kernel) (by decide +kernel), by decide +kernel, by decide +kernel⟩
theorem mi_X7_stripBits : Cond.instanceMethod yX7_stripBits ∈ tbG := tb_at 450 (by decide +kernel) (by decide +kernel)
theorem ms_X7_stripBits : Cond.selects yX7_stripBits.cls yX7_stripBits yX7_stripBits ∈ tbG := tb_at 451 (by decide +kernel) (by decide +kernel)
theorem mf_X7_columnOf : MF yX7_columnOf cX7_columnOf 4 (some .int) 2 := ⟨tb_at 456 (by decide +kernel) (by decide +kernel), tb_at 9 (by decide +kernel) (by decide +kernel), by decide +kernel, by decide +kernel⟩
theorem mi_X7_columnOf : Cond.instanceMethod yX7_columnOf ∈ tbG := tb_at 454 (by decide +kernel) (by decide +kernel)
theorem ms_X7_columnOf : Cond.selects yX7_columnOf.cls yX7_columnOf yX7_columnOf ∈ tbG := tb_at 455 (by decide +kernel) (by decide +kernel)
theorem mf_X0_knownAgainst : MF yX0_knownAgainst cX0_knownAgainst 5 (some .int) 1 := ⟨tb_at 460 (by decide +kernel) (by decide +kernel), tb_at 7 (by decide +kernel) (by decide +kernel), by decide +kernel, by decide +kernel⟩
theorem mi_X0_knownAgainst : Cond.instanceMethod yX0_knownAgainst ∈ tbG := tb_at 458 (by decide +kernel) (by decide +kernel)
theorem ms_X0_knownAgainst : Cond.selects yX0_knownAgainst.cls yX0_knownAgainst yX0_knownAgainst ∈ tbG := tb_at 459 (by decide +kernel) (by decide +kernel)
theorem mf_J6_bitCount_0f7a4 : MF yJ6_bitCount_0f7a4 cJ6_bitCount_0f7a4 1 (some .int) 1 := ⟨tb_at 463 (by decide +kernel) (by decide +kernel), tb_at 18 (by decide +kernel) (by decide +kernel), by decide +kernel, by decide +kernel⟩
theorem mt_J6_bitCount_0f7a4 : Cond.static yJ6_bitCount_0f7a4 ∈ tbG := tb_at 462 (by decide +kernel) (by decide +kernel)
theorem mf_X0_differing : MF yX0_differing cX0_differing 6 (some .int) 2 := ⟨tb_at 470 (by decide +kernel) (by decide +kernel), tb_at 7 (by decide +kernel) (by decide +kernel), by decide +kernel, by decide +kernel⟩
theorem mi_X0_differing : Cond.instanceMethod yX0_differing ∈ tbG := tb_at 468 (by decide +kernel) (by decide +kernel)
theorem ms_X0_differing : Cond.selects yX0_differing.cls yX0_differing yX0_differing ∈ tbG := tb_at 469 (by decide +kernel) (by decide +kernel)
theorem mf_X0_aimAt : MF yX0_aimAt cX0_aimAt 2 none 1 := ⟨tb_at 474 (by decide +kernel) (by decide +kernel), tb_at 7 (by decide +kernel) (by decide +kernel), by decide +kernel, by decide +kernel⟩
theorem mi_X0_aimAt : Cond.instanceMethod yX0_aimAt ∈ tbG := tb_at 472 (by decide +kernel) (by decide +kernel)
theorem ms_X0_aimAt : Cond.selects yX0_aimAt.cls yX0_aimAt yX0_aimAt ∈ tbG := tb_at 473 (by decide +kernel) (by decide +kernel)
theorem mf_X0_dueDots : MF yX0_dueDots cX0_dueDots 1 (some .int) 0 := ⟨tb_at 478 (by decide +kernel) (by decide +kernel), tb_at 7 (by decide +kernel) (by decide +kernel), by decide +kernel, by decide +kernel⟩
theorem mi_X0_dueDots : Cond.instanceMethod yX0_dueDots ∈ tbG := tb_at 476 (by decide +kernel) (by decide +kernel)
theorem ms_X0_dueDots : Cond.selects yX0_dueDots.cls yX0_dueDots yX0_dueDots ∈ tbG := tb_at 477 (by decide +kernel) (by decide +kernel)
theorem mf_L_best : MF yL_best cL_best 10 (some .int) 5 := ⟨tb_at 482 (by decide +kernel) (by decide +kernel), tb_at 4 (by decide +kernel) (by decide +kernel), by decide +kernel, by decide +kernel⟩
theorem mt_L_best : Cond.static yL_best ∈ tbG := tb_at 481 (by decide +kernel) (by decide +kernel)
theorem mf_L_wrong : MF yL_wrong cL_wrong 10 (some .int) 7 := ⟨tb_at 485 (by decide +kernel) (by decide +kernel), tb_at 4 (by decide +kernel) (by decide +kernel), by decide +kernel, by decide +kernel⟩
theorem mt_L_wrong : Cond.static yL_wrong ∈ tbG := tb_at 484 (by decide +kernel) (by decide +kernel)
theorem mf_L_picture : MF yL_picture cL_picture 11 (some .int) 6 := ⟨tb_at 488 (by decide +kernel) (by decide +kernel), tb_at 4 (by decide +kernel) (by decide +kernel), by decide +kernel, by decide +kernel⟩
theorem mt_L_picture : Cond.static yL_picture ∈ tbG := tb_at 487 (by decide +kernel) (by decide +kernel)
theorem mf_L_strip : MF yL_strip cL_strip 5 (some .int) 3 := ⟨tb_at 491 (by decide +kernel) (by decide +kernel), tb_at 4 (by decide +kernel) (by decide +kernel), by decide +kernel, by decide +kernel⟩
theorem mt_L_strip : Cond.static yL_strip ∈ tbG := tb_at 490 (by decide +kernel) (by decide +kernel)
theorem mf_L_bits : MF yL_bits cL_bits 3 (some .int) 1 := ⟨tb_at 494 (by decide +kernel) (by decide +kernel), tb_at 4 (by decide +kernel) (by decide +kernel), by decide +kernel, by decide +kernel⟩
theorem mt_L_bits : Cond.static yL_bits ∈ tbG := tb_at 493 (by decide +kernel) (by decide +kernel)
theorem mf_L_due : MF yL_due cL_due 4 (some .int) 2 := ⟨tb_at 497 (by decide +kernel) (by decide +kernel), tb_at 4 (by decide +kernel) (by decide +kernel), by decide +kernel, by decide +kernel⟩
theorem mt_L_due : Cond.static yL_due ∈ tbG := tb_at 496 (by decide +kernel) (by decide +kernel)
theorem mf_X9_darken : MF yX9_darken cX9_darken 1 (some .int) 0 := ⟨tb_at 501 (by decide +kernel) (by decide +kernel), tb_at 5 (by decide +kernel) (by decide +kernel), by decide +kernel, by decide +kernel⟩
theorem mi_X9_darken : Cond.instanceMethod yX9_darken ∈ tbG := tb_at 499 (by decide +kernel) (by decide +kernel)
theorem ms_X9_darken : Cond.selects yX9_darken.cls yX9_darken yX9_darken ∈ tbG := tb_at 500 (by decide +kernel) (by decide +kernel)
theorem mf_X0_aimAtDark : MF yX0_aimAtDark cX0_aimAtDark 1 none 0 := ⟨tb_at 505 (by decide +kernel) (by decide +kernel), tb_at 7 (by decide +kernel) (by decide +kernel), by decide +kernel, by decide +kernel⟩
theorem mi_X0_aimAtDark : Cond.instanceMethod yX0_aimAtDark ∈ tbG := tb_at 503 (by decide +kernel) (by decide +kernel)
theorem ms_X0_aimAtDark : Cond.selects yX0_aimAtDark.cls yX0_aimAtDark yX0_aimAtDark ∈ tbG := tb_at 504 (by decide +kernel) (by decide +kernel)
theorem mf_X9_jam : MF yX9_jam cX9_jam 3 (some .int) 2 := ⟨tb_at 509 (by decide +kernel) (by decide +kernel), tb_at 5 (by decide +kernel) (by decide +kernel), by decide +kernel, by decide +kernel⟩
theorem mi_X9_jam : Cond.instanceMethod yX9_jam ∈ tbG := tb_at 507 (by decide +kernel) (by decide +kernel)
theorem ms_X9_jam : Cond.selects yX9_jam.cls yX9_jam yX9_jam ∈ tbG := tb_at 508 (by decide +kernel) (by decide +kernel)
theorem mf_X0_hasDot : MF yX0_hasDot cX0_hasDot 3 (some .boolean) 2 := ⟨tb_at 513 (by decide +kernel) (by decide +kernel), tb_at 7 (by decide +kernel) (by decide +kernel), by decide +kernel, by decide +kernel⟩
theorem mi_X0_hasDot : Cond.instanceMethod yX0_hasDot ∈ tbG := tb_at 511 (by decide +kernel) (by decide +kernel)
theorem ms_X0_hasDot : Cond.selects yX0_hasDot.cls yX0_hasDot yX0_hasDot ∈ tbG := tb_at 512 (by decide +kernel) (by decide +kernel)
theorem mf_X0_isStuck : MF yX0_isStuck cX0_isStuck 3 (some .boolean) 2 := ⟨tb_at 518 (by decide +kernel) (by decide +kernel), tb_at 7 (by decide +kernel) (by decide +kernel), by decide +kernel, by decide +kernel⟩
theorem mi_X0_isStuck : Cond.instanceMethod yX0_isStuck ∈ tbG := tb_at 516 (by decide +kernel) (by decide +kernel)
theorem ms_X0_isStuck : Cond.selects yX0_isStuck.cls yX0_isStuck yX0_isStuck ∈ tbG := tb_at 517 (by decide +kernel) (by decide +kernel)
theorem mf_X0_stick : MF yX0_stick cX0_stick 3 none 2 := ⟨tb_at 523 (by decide +kernel) (by decide +kernel), tb_at 7 (by decide +kernel) (by decide +kernel), by decide +kernel, by decide +kernel⟩
theorem mi_X0_stick : Cond.instanceMethod yX0_stick ∈ tbG := tb_at 521 (by decide +kernel) (by decide +kernel)
theorem ms_X0_stick : Cond.selects yX0_stick.cls yX0_stick yX0_stick ∈ tbG := tb_at 522 (by decide +kernel) (by decide +kernel)
theorem mf_X0_flipsOf : MF yX0_flipsOf cX0_flipsOf 3 (some .int) 2 := ⟨tb_at 527 (by decide +kernel) (by decide +kernel), tb_at 7 (by decide +kernel) (by decide +kernel), by decide +kernel, by decide +kernel⟩
theorem mi_X0_flipsOf : Cond.instanceMethod yX0_flipsOf ∈ tbG := tb_at 525 (by decide +kernel) (by decide +kernel)
theorem ms_X0_flipsOf : Cond.selects yX0_flipsOf.cls yX0_flipsOf yX0_flipsOf ∈ tbG := tb_at 526 (by decide +kernel) (by decide +kernel)
theorem mf_X9_mend : MF yX9_mend cX9_mend 4 (some .int) 2 := ⟨tb_at 533 (by decide +kernel) (by decide +kernel), tb_at 5 (by decide +kernel) (by decide +kernel), by decide +kernel, by decide +kernel⟩
theorem mi_X9_mend : Cond.instanceMethod yX9_mend ∈ tbG := tb_at 531 (by decide +kernel) (by decide +kernel)
theorem ms_X9_mend : Cond.selects yX9_mend.cls yX9_mend yX9_mend ∈ tbG := tb_at 532 (by decide +kernel) (by decide +kernel)
theorem mf_X0_renewDot : MF yX0_renewDot cX0_renewDot 3 none 2 := ⟨tb_at 537 (by decide +kernel) (by decide +kernel), tb_at 7 (by decide +kernel) (by decide +kernel), by decide +kernel, by decide +kernel⟩
theorem mi_X0_renewDot : Cond.instanceMethod yX0_renewDot ∈ tbG := tb_at 535 (by decide +kernel) (by decide +kernel)
theorem ms_X0_renewDot : Cond.selects yX0_renewDot.cls yX0_renewDot yX0_renewDot ∈ tbG := tb_at 536 (by decide +kernel) (by decide +kernel)
theorem mf_L_second : MF yL_second cL_second 8 none 3 := ⟨tb_at 540 (by decide +kernel) (by decide +kernel), tb_at 4 (by decide +kernel) (by decide +kernel), by decide +kernel, by decide +kernel⟩
theorem mt_L_second : Cond.static yL_second ∈ tbG := tb_at 539 (by decide +kernel) (by decide +kernel)
theorem mf_L_goes : MF yL_goes cL_goes 8 (some .int) 5 := ⟨tb_at 543 (by decide +kernel) (by decide +kernel), tb_at 4 (by decide +kernel) (by decide +kernel), by decide +kernel, by decide +kernel⟩
theorem mt_L_goes : Cond.static yL_goes ∈ tbG := tb_at 542 (by decide +kernel) (by decide +kernel)
theorem mf_X9_pass : MF yX9_pass cX9_pass 3 (some .int) 1 := ⟨tb_at 547 (by decide +kernel) (by decide +kernel), tb_at 5 (by decide +kernel) (by decide +kernel), by decide +kernel, by decide +kernel⟩
theorem mi_X9_pass : Cond.instanceMethod yX9_pass ∈ tbG := tb_at 545 (by decide +kernel) (by decide +kernel)
theorem ms_X9_pass : Cond.selects yX9_pass.cls yX9_pass yX9_pass ∈ tbG := tb_at 546 (by decide +kernel) (by decide +kernel)
theorem mf_X1_passSecond : MF yX1_passSecond cX1_passSecond 6 none 1 := ⟨tb_at 551 (by decide +kernel) (by decide +kernel), tb_at 12 (by decide +kernel) (by decide +kernel), by decide +kernel, by decide +kernel⟩
theorem mi_X1_passSecond : Cond.instanceMethod yX1_passSecond ∈ tbG := tb_at 549 (by decide +kernel) (by decide +kernel)
theorem ms_X1_passSecond : Cond.selects yX1_passSecond.cls yX1_passSecond yX1_passSecond ∈ tbG := tb_at 550 (by decide +kernel) (by decide +kernel)
theorem mf_X1_arrange : MF yX1_arrange cX1_arrange 4 none 2 := ⟨tb_at 555 (by decide +kernel) (by decide +kernel), tb_at 12 (by decide +kernel) (by decide +kernel), by decide +kernel, by decide +kernel⟩
theorem mi_X1_arrange : Cond.instanceMethod yX1_arrange ∈ tbG := tb_at 554 (by decide +kernel) (by decide +kernel)
theorem ms_X1_arrange : Cond.selects yX1_arrange.cls yX1_arrange yX1_arrange ∈ tbG := tb_at 1 (by decide +kernel) (by decide +kernel)
theorem mf_X1_arrangeByDueDots : MF yX1_arrangeByDueDots cX1_arrangeByDueDots 6 none 1 := ⟨tb_at 559 (by decide +kernel) (by decide +kernel), tb_at 12 (by decide +kernel) (by decide +kernel), by decide +kernel, by decide +kernel⟩
theorem mi_X1_arrangeByDueDots : Cond.instanceMethod yX1_arrangeByDueDots ∈ tbG := tb_at 558 (by decide +kernel) (by decide +kernel)
theorem ms_X1_arrangeByDueDots : Cond.selects yX1_arrangeByDueDots.cls yX1_arrangeByDueDots yX1_arrangeByDueDots ∈ tbG := tb_at 2 (by decide +kernel) (by decide +kernel)
theorem mf_X0_dueBits : MF yX0_dueBits cX0_dueBits 2 (some .int) 1 := ⟨tb_at 563 (by decide +kernel) (by decide +kernel), tb_at 7 (by decide +kernel) (by decide +kernel), by decide +kernel, by decide +kernel⟩
theorem mi_X0_dueBits : Cond.instanceMethod yX0_dueBits ∈ tbG := tb_at 561 (by decide +kernel) (by decide +kernel)
theorem ms_X0_dueBits : Cond.selects yX0_dueBits.cls yX0_dueBits yX0_dueBits ∈ tbG := tb_at 562 (by decide +kernel) (by decide +kernel)
theorem mf_X1_flipColumn : MF yX1_flipColumn cX1_flipColumn 7 (some .int) 3 := ⟨tb_at 568 (by decide +kernel) (by decide +kernel), tb_at 12 (by decide +kernel) (by decide +kernel), by decide +kernel, by decide +kernel⟩
theorem mi_X1_flipColumn : Cond.instanceMethod yX1_flipColumn ∈ tbG := tb_at 567 (by decide +kernel) (by decide +kernel)
theorem ms_X1_flipColumn : Cond.selects yX1_flipColumn.cls yX1_flipColumn yX1_flipColumn ∈ tbG := tb_at 3 (by decide +kernel) (by decide +kernel)
theorem mf_X8_tryDot : MF yX8_tryDot cX8_tryDot 3 none 2 := ⟨tb_at 572 (by decide +kernel) (by decide +kernel), tb_at 6 (by decide +kernel) (by decide +kernel), by decide +kernel, by decide +kernel⟩
theorem mi_X8_tryDot : Cond.instanceMethod yX8_tryDot ∈ tbG := tb_at 570 (by decide +kernel) (by decide +kernel)
theorem ms_X8_tryDot : Cond.selects yX8_tryDot.cls yX8_tryDot yX8_tryDot ∈ tbG := tb_at 571 (by decide +kernel) (by decide +kernel)
theorem mf_X0_makeKnown : MF yX0_makeKnown cX0_makeKnown 3 none 2 := ⟨tb_at 577 (by decide +kernel) (by decide +kernel), tb_at 7 (by decide +kernel) (by decide +kernel), by decide +kernel, by decide +kernel⟩
theorem mi_X0_makeKnown : Cond.instanceMethod yX0_makeKnown ∈ tbG := tb_at 575 (by decide +kernel) (by decide +kernel)
theorem ms_X0_makeKnown : Cond.selects yX0_makeKnown.cls yX0_makeKnown yX0_makeKnown ∈ tbG := tb_at 576 (by decide +kernel) (by decide +kernel)
theorem mf_X0_flip : MF yX0_flip cX0_flip 3 none 2 := ⟨tb_at 581 (by decide +kernel) (by decide +kernel), tb_at 7 (by decide +kernel) (by decide +kernel), by decide +kernel, by decide +kernel⟩
theorem mi_X0_flip : Cond.instanceMethod yX0_flip ∈ tbG := tb_at 579 (by decide +kernel) (by decide +kernel)
theorem ms_X0_flip : Cond.selects yX0_flip.cls yX0_flip yX0_flip ∈ tbG := tb_at 580 (by decide +kernel) (by decide +kernel)
theorem mf_X3_addSecond : MF yX3_addSecond cX3_addSecond 2 none 1 := ⟨tb_at 587 (by decide +kernel) (by decide +kernel), tb_at 8 (by decide +kernel) (by decide +kernel), by decide +kernel, by decide +kernel⟩
theorem mi_X3_addSecond : Cond.instanceMethod yX3_addSecond ∈ tbG := tb_at 585 (by decide +kernel) (by decide +kernel)
theorem ms_X3_addSecond : Cond.selects yX3_addSecond.cls yX3_addSecond yX3_addSecond ∈ tbG := tb_at 586 (by decide +kernel) (by decide +kernel)
theorem mf_L_isSo : MF yL_isSo cL_isSo 12 (some .boolean) 6 := ⟨tb_at 590 (by decide +kernel) (by decide +kernel), tb_at 4 (by decide +kernel) (by decide +kernel), by decide +kernel, by decide +kernel⟩
theorem mt_L_isSo : Cond.static yL_isSo ∈ tbG := tb_at 589 (by decide +kernel) (by decide +kernel)
theorem mf_X9_count : MF yX9_count cX9_count 2 (some .int) 1 := ⟨tb_at 594 (by decide +kernel) (by decide +kernel), tb_at 5 (by decide +kernel) (by decide +kernel), by decide +kernel, by decide +kernel⟩
theorem mi_X9_count : Cond.instanceMethod yX9_count ∈ tbG := tb_at 592 (by decide +kernel) (by decide +kernel)
theorem ms_X9_count : Cond.selects yX9_count.cls yX9_count yX9_count ∈ tbG := tb_at 593 (by decide +kernel) (by decide +kernel)
theorem mf_X0_stuckDots : MF yX0_stuckDots cX0_stuckDots 1 (some .int) 0 := ⟨tb_at 598 (by decide +kernel) (by decide +kernel), tb_at 7 (by decide +kernel) (by decide +kernel), by decide +kernel, by decide +kernel⟩
theorem mi_X0_stuckDots : Cond.instanceMethod yX0_stuckDots ∈ tbG := tb_at 596 (by decide +kernel) (by decide +kernel)
theorem ms_X0_stuckDots : Cond.selects yX0_stuckDots.cls yX0_stuckDots yX0_stuckDots ∈ tbG := tb_at 597 (by decide +kernel) (by decide +kernel)
theorem mf_X0_dotsIn : MF yX0_dotsIn cX0_dotsIn 3 (some .int) 1 := ⟨tb_at 601 (by decide +kernel) (by decide +kernel), tb_at 7 (by decide +kernel) (by decide +kernel), by decide +kernel, by decide +kernel⟩
theorem mt_X0_dotsIn : Cond.static yX0_dotsIn ∈ tbG := tb_at 600 (by decide +kernel) (by decide +kernel)
theorem mf_X0_knownDots : MF yX0_knownDots cX0_knownDots 1 (some .int) 0 := ⟨tb_at 605 (by decide +kernel) (by decide +kernel), tb_at 7 (by decide +kernel) (by decide +kernel), by decide +kernel, by decide +kernel⟩
theorem mi_X0_knownDots : Cond.instanceMethod yX0_knownDots ∈ tbG := tb_at 603 (by decide +kernel) (by decide +kernel)
theorem ms_X0_knownDots : Cond.selects yX0_knownDots.cls yX0_knownDots yX0_knownDots ∈ tbG := tb_at 604 (by decide +kernel) (by decide +kernel)
theorem mf_X0_otherDots : MF yX0_otherDots cX0_otherDots 3 (some .int) 0 := ⟨tb_at 609 (by decide +kernel) (by decide +kernel), tb_at 7 (by decide +kernel) (by decide +kernel), by decide +kernel, by decide +kernel⟩
theorem mi_X0_otherDots : Cond.instanceMethod yX0_otherDots ∈ tbG := tb_at 607 (by decide +kernel) (by decide +kernel)
theorem ms_X0_otherDots : Cond.selects yX0_otherDots.cls yX0_otherDots yX0_otherDots ∈ tbG := tb_at 608 (by decide +kernel) (by decide +kernel)
theorem mf_X9_flips : MF yX9_flips cX9_flips 3 (some .int) 2 := ⟨tb_at 613 (by decide +kernel) (by decide +kernel), tb_at 5 (by decide +kernel) (by decide +kernel), by decide +kernel, by decide +kernel⟩
theorem mi_X9_flips : Cond.instanceMethod yX9_flips ∈ tbG := tb_at 611 (by decide +kernel) (by decide +kernel)
theorem ms_X9_flips : Cond.selects yX9_flips.cls yX9_flips yX9_flips ∈ tbG := tb_at 612 (by decide +kernel) (by decide +kernel)
theorem mf_X9_letter : MF yX9_letter cX9_letter 3 (some .int) 2 := ⟨tb_at 617 (by decide +kernel) (by decide +kernel), tb_at 5 (by decide +kernel) (by decide +kernel), by decide +kernel, by decide +kernel⟩
theorem mi_X9_letter : Cond.instanceMethod yX9_letter ∈ tbG := tb_at 615 (by decide +kernel) (by decide +kernel)
theorem ms_X9_letter : Cond.selects yX9_letter.cls yX9_letter yX9_letter ∈ tbG := tb_at 616 (by decide +kernel) (by decide +kernel)
theorem mf_X9_message : MF yX9_message cX9_message 3 (some .int) 2 := ⟨tb_at 622 (by decide +kernel) (by decide +kernel), tb_at 5 (by decide +kernel) (by decide +kernel), by decide +kernel, by decide +kernel⟩
theorem mi_X9_message : Cond.instanceMethod yX9_message ∈ tbG := tb_at 620 (by decide +kernel) (by decide +kernel)
theorem ms_X9_message : Cond.selects yX9_message.cls yX9_message yX9_message ∈ tbG := tb_at 621 (by decide +kernel) (by decide +kernel)
theorem m_obj : Cond.instanceMethod objectInit ∈ tbG ∧ Cond.code objectInit ⟨#[0xb1]⟩ 1 none ∈ tbG := ⟨tb_at 25 (by decide +kernel) (by decide +kernel), tb_at 26 (by decide +kernel) (by decide +kernel)⟩
theorem m_cpy : Cond.native arraycopyName ∈ tbG ∧ Cond.static arraycopyName ∈ tbG ∧ Cond.initialized "java/lang/System" ∈ tbG := ⟨tb_at 299 (by decide +kernel) (by decide +kernel), tb_at 298 (by decide +kernel) (by decide +kernel), tb_at 16 (by decide +kernel) (by decide +kernel)⟩
theorem kl_L_106 : Cond.methodLink RL 106 yX9_init ∈ tbG := tb_at 21 (by decide +kernel) (by decide +kernel)
theorem kl_X9_1 : Cond.methodLink RX9 1 objectInit ∈ tbG := tb_at 24 (by decide +kernel) (by decide +kernel)
theorem kl_X8_3 : Cond.methodLink RX8 3 objectInit ∈ tbG := tb_at 32 (by decide +kernel) (by decide +kernel)
theorem kl_X0_3 : Cond.methodLink RX0 3 objectInit ∈ tbG := tb_at 38 (by decide +kernel) (by decide +kernel)
theorem kl_X3_3 : Cond.methodLink RX3 3 objectInit ∈ tbG := tb_at 71 (by decide +kernel) (by decide +kernel)
theorem kl_X7_3 : Cond.methodLink RX7 3 objectInit ∈ tbG := tb_at 99 (by decide +kernel) (by decide +kernel)
theorem kl_X8_36 : Cond.methodLink RX8 36 ⟨"[I", "clone", "()Ljava/lang/Object;"⟩ ∈ tbG := tb_at 119 (by decide +kernel) (by decide +kernel)
theorem kl_X9_21 : Cond.methodLink RX9 21 yX2_init ∈ tbG := tb_at 150 (by decide +kernel) (by decide +kernel)
theorem kl_X2_3 : Cond.methodLink RX2 3 objectInit ∈ tbG := tb_at 153 (by decide +kernel) (by decide +kernel)
theorem kl_X5_3 : Cond.methodLink RX5 3 objectInit ∈ tbG := tb_at 173 (by decide +kernel) (by decide +kernel)
theorem kl_X1_3 : Cond.methodLink RX1 3 objectInit ∈ tbG := tb_at 187 (by decide +kernel) (by decide +kernel)
theorem kl_X6_3 : Cond.methodLink RX6 3 objectInit ∈ tbG := tb_at 197 (by decide +kernel) (by decide +kernel)
theorem kl_X4_3 : Cond.methodLink RX4 3 objectInit ∈ tbG := tb_at 221 (by decide +kernel) (by decide +kernel)
theorem kl_L_38 : Cond.methodLink RL 38 yX9_begin ∈ tbG := tb_at 268 (by decide +kernel) (by decide +kernel)
theorem kl_X9_62 : Cond.methodLink RX9 62 yX2_keep ∈ tbG := tb_at 272 (by decide +kernel) (by decide +kernel)
theorem kl_X2_25 : Cond.methodLink RX2 25 yX2_stateAt ∈ tbG := tb_at 276 (by decide +kernel) (by decide +kernel)
theorem kl_X2_33 : Cond.methodLink RX2 33 yJ9_floorMod_7cf53 ∈ tbG := tb_at 280 (by decide +kernel) (by decide +kernel)
theorem kl_X2_29 : Cond.methodLink RX2 29 yX8_copyFrom ∈ tbG := tb_at 283 (by decide +kernel) (by decide +kernel)
theorem kl_X8_44 : Cond.methodLink RX8 44 yX0_copyFrom ∈ tbG := tb_at 287 (by decide +kernel) (by decide +kernel)
theorem kl_X9_277 : Cond.methodLink RX9 277 yJ9_min_7cf53 ∈ tbG := tb_at 294 (by decide +kernel) (by decide +kernel)
theorem kl_X9_282 : Cond.methodLink RX9 282 arraycopyName ∈ tbG := tb_at 297 (by decide +kernel) (by decide +kernel)
theorem kl_X8_48 : Cond.methodLink RX8 48 yX3_copyFrom ∈ tbG := tb_at 300 (by decide +kernel) (by decide +kernel)
theorem kl_X8_51 : Cond.methodLink RX8 51 yX7_copyFrom ∈ tbG := tb_at 305 (by decide +kernel) (by decide +kernel)
theorem kl_X9_75 : Cond.methodLink RX9 75 yX0_renew ∈ tbG := tb_at 311 (by decide +kernel) (by decide +kernel)
theorem kl_X0_35 : Cond.methodLink RX0 35 yJ7_fill_53178 ∈ tbG := tb_at 315 (by decide +kernel) (by decide +kernel)
theorem kl_X9_83 : Cond.methodLink RX9 83 yX3_renew ∈ tbG := tb_at 318 (by decide +kernel) (by decide +kernel)
theorem kl_X3_32 : Cond.methodLink RX3 32 yJ7_fill_53178 ∈ tbG := tb_at 322 (by decide +kernel) (by decide +kernel)
theorem kl_L_89 : Cond.methodLink RL 89 yX9_column ∈ tbG := tb_at 323 (by decide +kernel) (by decide +kernel)
theorem kl_X9_209 : Cond.methodLink RX9 209 yX0_hasColumn ∈ tbG := tb_at 327 (by decide +kernel) (by decide +kernel)
theorem kl_L_98 : Cond.methodLink RL 98 yX9_strip ∈ tbG := tb_at 331 (by decide +kernel) (by decide +kernel)
theorem kl_X9_123 : Cond.methodLink RX9 123 yX7_hasMessage ∈ tbG := tb_at 335 (by decide +kernel) (by decide +kernel)
theorem kl_X9_233 : Cond.methodLink RX9 233 yX7_stripColumns ∈ tbG := tb_at 339 (by decide +kernel) (by decide +kernel)
theorem kl_X7_45 : Cond.methodLink RX7 45 yX7_lengthOf ∈ tbG := tb_at 343 (by decide +kernel) (by decide +kernel)
theorem kl_X7_42 : Cond.methodLink RX7 42 yX7_hasMessage ∈ tbG := tb_at 347 (by decide +kernel) (by decide +kernel)
theorem kl_X7_36 : Cond.methodLink RX7 36 yJ9_max_7cf53 ∈ tbG := tb_at 348 (by decide +kernel) (by decide +kernel)
theorem kl_X7_49 : Cond.methodLink RX7 49 yX7_characterOf ∈ tbG := tb_at 351 (by decide +kernel) (by decide +kernel)
theorem kl_X7_52 : Cond.methodLink RX7 52 yX7_widthOf ∈ tbG := tb_at 355 (by decide +kernel) (by decide +kernel)
theorem kl_X7_32 : Cond.methodLink RX7 32 yX7_isLetter ∈ tbG := tb_at 359 (by decide +kernel) (by decide +kernel)
theorem kl_L_103 : Cond.methodLink RL 103 yX9_power ∈ tbG := tb_at 363 (by decide +kernel) (by decide +kernel)
theorem kl_X9_240 : Cond.methodLink RX9 240 yX3_powerOf ∈ tbG := tb_at 367 (by decide +kernel) (by decide +kernel)
theorem kl_X3_38 : Cond.methodLink RX3 38 yJ9_floorMod_7cf53 ∈ tbG := tb_at 371 (by decide +kernel) (by decide +kernel)
theorem kl_L_107 : Cond.methodLink RL 107 yL_cell ∈ tbG := tb_at 372 (by decide +kernel) (by decide +kernel)
theorem kl_L_34 : Cond.methodLink RL 34 yL_low ∈ tbG := tb_at 376 (by decide +kernel) (by decide +kernel)
theorem kl_L_111 : Cond.methodLink RL 111 yL_acts ∈ tbG := tb_at 380 (by decide +kernel) (by decide +kernel)
theorem kl_L_43 : Cond.methodLink RL 43 yX9_setNumber ∈ tbG := tb_at 384 (by decide +kernel) (by decide +kernel)
theorem kl_X9_87 : Cond.methodLink RX9 87 yX8_hasNumber ∈ tbG := tb_at 388 (by decide +kernel) (by decide +kernel)
theorem kl_L_46 : Cond.methodLink RL 46 yX9_setColumn ∈ tbG := tb_at 396 (by decide +kernel) (by decide +kernel)
theorem kl_X9_104 : Cond.methodLink RX9 104 yX7_widthOf ∈ tbG := tb_at 400 (by decide +kernel) (by decide +kernel)
theorem kl_X9_110 : Cond.methodLink RX9 110 yX7_putColumn ∈ tbG := tb_at 401 (by decide +kernel) (by decide +kernel)
theorem kl_L_50 : Cond.methodLink RL 50 yX9_addMessage ∈ tbG := tb_at 405 (by decide +kernel) (by decide +kernel)
theorem kl_X9_117 : Cond.methodLink RX9 117 yX7_startMessage ∈ tbG := tb_at 409 (by decide +kernel) (by decide +kernel)
theorem kl_X9_120 : Cond.methodLink RX9 120 yX7_addCharacter ∈ tbG := tb_at 413 (by decide +kernel) (by decide +kernel)
theorem kl_L_53 : Cond.methodLink RL 53 yX9_removeMessage ∈ tbG := tb_at 417 (by decide +kernel) (by decide +kernel)
theorem kl_X9_126 : Cond.methodLink RX9 126 yX7_dropMessage ∈ tbG := tb_at 421 (by decide +kernel) (by decide +kernel)
theorem kl_L_56 : Cond.methodLink RL 56 yX9_show ∈ tbG := tb_at 425 (by decide +kernel) (by decide +kernel)
theorem kl_X9_143 : Cond.methodLink RX9 143 yX9_canShow ∈ tbG := tb_at 429 (by decide +kernel) (by decide +kernel)
theorem kl_X9_147 : Cond.methodLink RX9 147 yX5_drawAs ∈ tbG := tb_at 433 (by decide +kernel) (by decide +kernel)
theorem kl_X5_44 : Cond.methodLink RX5 44 yX5_bestShiftOf ∈ tbG := tb_at 437 (by decide +kernel) (by decide +kernel)
theorem kl_X5_48 : Cond.methodLink RX5 48 yX5_draw ∈ tbG := tb_at 444 (by decide +kernel) (by decide +kernel)
theorem kl_X5_34 : Cond.methodLink RX5 34 yX7_stripColumns ∈ tbG := tb_at 448 (by decide +kernel) (by decide +kernel)
theorem kl_X5_40 : Cond.methodLink RX5 40 yX7_stripBits ∈ tbG := tb_at 449 (by decide +kernel) (by decide +kernel)
theorem kl_X7_55 : Cond.methodLink RX7 55 yX7_columnOf ∈ tbG := tb_at 453 (by decide +kernel) (by decide +kernel)
theorem kl_X5_58 : Cond.methodLink RX5 58 yX0_knownAgainst ∈ tbG := tb_at 457 (by decide +kernel) (by decide +kernel)
theorem kl_X0_49 : Cond.methodLink RX0 49 yJ6_bitCount_0f7a4 ∈ tbG := tb_at 461 (by decide +kernel) (by decide +kernel)
theorem kl_X5_65 : Cond.methodLink RX5 65 yX0_differing ∈ tbG := tb_at 467 (by decide +kernel) (by decide +kernel)
theorem kl_X9_154 : Cond.methodLink RX9 154 yX0_aimAt ∈ tbG := tb_at 471 (by decide +kernel) (by decide +kernel)
theorem kl_X9_158 : Cond.methodLink RX9 158 yX0_dueDots ∈ tbG := tb_at 475 (by decide +kernel) (by decide +kernel)
theorem kl_X0_45 : Cond.methodLink RX0 45 yX0_differing ∈ tbG := tb_at 479 (by decide +kernel) (by decide +kernel)
theorem kl_L_59 : Cond.methodLink RL 59 yL_best ∈ tbG := tb_at 480 (by decide +kernel) (by decide +kernel)
theorem kl_L_29 : Cond.methodLink RL 29 yL_wrong ∈ tbG := tb_at 483 (by decide +kernel) (by decide +kernel)
theorem kl_L_25 : Cond.methodLink RL 25 yL_picture ∈ tbG := tb_at 486 (by decide +kernel) (by decide +kernel)
theorem kl_L_9 : Cond.methodLink RL 9 yL_strip ∈ tbG := tb_at 489 (by decide +kernel) (by decide +kernel)
theorem kl_L_15 : Cond.methodLink RL 15 yL_bits ∈ tbG := tb_at 492 (by decide +kernel) (by decide +kernel)
theorem kl_L_63 : Cond.methodLink RL 63 yL_due ∈ tbG := tb_at 495 (by decide +kernel) (by decide +kernel)
theorem kl_L_67 : Cond.methodLink RL 67 yX9_darken ∈ tbG := tb_at 498 (by decide +kernel) (by decide +kernel)
theorem kl_X9_162 : Cond.methodLink RX9 162 yX0_aimAtDark ∈ tbG := tb_at 502 (by decide +kernel) (by decide +kernel)
theorem kl_L_71 : Cond.methodLink RL 71 yX9_jam ∈ tbG := tb_at 506 (by decide +kernel) (by decide +kernel)
theorem kl_X9_165 : Cond.methodLink RX9 165 yX0_hasDot ∈ tbG := tb_at 510 (by decide +kernel) (by decide +kernel)
theorem kl_X0_41 : Cond.methodLink RX0 41 yX0_hasColumn ∈ tbG := tb_at 514 (by decide +kernel) (by decide +kernel)
theorem kl_X9_168 : Cond.methodLink RX9 168 yX0_isStuck ∈ tbG := tb_at 515 (by decide +kernel) (by decide +kernel)
theorem kl_X0_59 : Cond.methodLink RX0 59 yX0_hasDot ∈ tbG := tb_at 519 (by decide +kernel) (by decide +kernel)
theorem kl_X9_171 : Cond.methodLink RX9 171 yX0_stick ∈ tbG := tb_at 520 (by decide +kernel) (by decide +kernel)
theorem kl_X9_175 : Cond.methodLink RX9 175 yX0_flipsOf ∈ tbG := tb_at 524 (by decide +kernel) (by decide +kernel)
theorem kl_L_76 : Cond.methodLink RL 76 yX9_mend ∈ tbG := tb_at 530 (by decide +kernel) (by decide +kernel)
theorem kl_X9_179 : Cond.methodLink RX9 179 yX0_renewDot ∈ tbG := tb_at 534 (by decide +kernel) (by decide +kernel)
theorem kl_L_79 : Cond.methodLink RL 79 yL_second ∈ tbG := tb_at 538 (by decide +kernel) (by decide +kernel)
theorem kl_L_21 : Cond.methodLink RL 21 yL_goes ∈ tbG := tb_at 541 (by decide +kernel) (by decide +kernel)
theorem kl_L_83 : Cond.methodLink RL 83 yX9_pass ∈ tbG := tb_at 544 (by decide +kernel) (by decide +kernel)
theorem kl_X9_182 : Cond.methodLink RX9 182 yX1_passSecond ∈ tbG := tb_at 548 (by decide +kernel) (by decide +kernel)
theorem kl_X1_24 : Cond.methodLink RX1 24 yX1_arrange ∈ tbG := tb_at 552 (by decide +kernel) (by decide +kernel)
theorem kl_X1_52 : Cond.methodLink RX1 52 yX1_arrangeByDueDots ∈ tbG := tb_at 556 (by decide +kernel) (by decide +kernel)
theorem kl_X1_28 : Cond.methodLink RX1 28 yX0_dueBits ∈ tbG := tb_at 560 (by decide +kernel) (by decide +kernel)
theorem kl_X1_56 : Cond.methodLink RX1 56 yJ6_bitCount_0f7a4 ∈ tbG := tb_at 564 (by decide +kernel) (by decide +kernel)
theorem kl_X1_34 : Cond.methodLink RX1 34 yX1_flipColumn ∈ tbG := tb_at 565 (by decide +kernel) (by decide +kernel)
theorem kl_X1_48 : Cond.methodLink RX1 48 yX8_tryDot ∈ tbG := tb_at 569 (by decide +kernel) (by decide +kernel)
theorem kl_X8_58 : Cond.methodLink RX8 58 yX0_isStuck ∈ tbG := tb_at 573 (by decide +kernel) (by decide +kernel)
theorem kl_X8_62 : Cond.methodLink RX8 62 yX0_makeKnown ∈ tbG := tb_at 574 (by decide +kernel) (by decide +kernel)
theorem kl_X8_70 : Cond.methodLink RX8 70 yX0_flip ∈ tbG := tb_at 578 (by decide +kernel) (by decide +kernel)
theorem kl_X8_76 : Cond.methodLink RX8 76 yX0_flipsOf ∈ tbG := tb_at 582 (by decide +kernel) (by decide +kernel)
theorem kl_X8_80 : Cond.methodLink RX8 80 yX0_stick ∈ tbG := tb_at 583 (by decide +kernel) (by decide +kernel)
theorem kl_X1_42 : Cond.methodLink RX1 42 yX3_addSecond ∈ tbG := tb_at 584 (by decide +kernel) (by decide +kernel)
theorem kl_L_115 : Cond.methodLink RL 115 yL_isSo ∈ tbG := tb_at 588 (by decide +kernel) (by decide +kernel)
theorem kl_L_86 : Cond.methodLink RL 86 yX9_count ∈ tbG := tb_at 591 (by decide +kernel) (by decide +kernel)
theorem kl_X9_185 : Cond.methodLink RX9 185 yX0_stuckDots ∈ tbG := tb_at 595 (by decide +kernel) (by decide +kernel)
theorem kl_X0_55 : Cond.methodLink RX0 55 yX0_dotsIn ∈ tbG := tb_at 599 (by decide +kernel) (by decide +kernel)
theorem kl_X9_188 : Cond.methodLink RX9 188 yX0_knownDots ∈ tbG := tb_at 602 (by decide +kernel) (by decide +kernel)
theorem kl_X9_191 : Cond.methodLink RX9 191 yX0_otherDots ∈ tbG := tb_at 606 (by decide +kernel) (by decide +kernel)
theorem kl_L_92 : Cond.methodLink RL 92 yX9_flips ∈ tbG := tb_at 610 (by decide +kernel) (by decide +kernel)
theorem kl_L_95 : Cond.methodLink RL 95 yX9_letter ∈ tbG := tb_at 614 (by decide +kernel) (by decide +kernel)
theorem kl_X9_224 : Cond.methodLink RX9 224 yX7_columnOf ∈ tbG := tb_at 618 (by decide +kernel) (by decide +kernel)
theorem kl_L_100 : Cond.methodLink RL 100 yX9_message ∈ tbG := tb_at 619 (by decide +kernel) (by decide +kernel)
theorem kl_X9_227 : Cond.methodLink RX9 227 yX7_lengthOf ∈ tbG := tb_at 623 (by decide +kernel) (by decide +kernel)
theorem kl_X9_230 : Cond.methodLink RX9 230 yX7_characterOf ∈ tbG := tb_at 624 (by decide +kernel) (by decide +kernel)
theorem kl_X9_9 : Cond.methodLinkNest RX9 9 yX8_init "FlipBoard" ∈ lw_tbl := List.mem_of_getElem? (i := 29) (by decide +kernel)
theorem kl_X8_11 : Cond.methodLinkNest RX8 11 yX0_init "FlipBoard" ∈ lw_tbl := List.mem_of_getElem? (i := 35) (by decide +kernel)
theorem kl_X8_20 : Cond.methodLinkNest RX8 20 yX3_init "FlipBoard" ∈ lw_tbl := List.mem_of_getElem? (i := 68) (by decide +kernel)
theorem kl_X8_27 : Cond.methodLinkNest RX8 27 yX7_init "FlipBoard" ∈ lw_tbl := List.mem_of_getElem? (i := 96) (by decide +kernel)
theorem kl_X2_24 : Cond.methodLinkNest RX2 24 yX8_init "FlipBoard" ∈ lw_tbl := List.mem_of_getElem? (i := 156) (by decide +kernel)
theorem kl_X9_28 : Cond.methodLinkNest RX9 28 yX5_init "FlipBoard" ∈ lw_tbl := List.mem_of_getElem? (i := 170) (by decide +kernel)
theorem kl_X9_35 : Cond.methodLinkNest RX9 35 yX1_init "FlipBoard" ∈ lw_tbl := List.mem_of_getElem? (i := 184) (by decide +kernel)
theorem kl_X9_42 : Cond.methodLinkNest RX9 42 yX6_init "FlipBoard" ∈ lw_tbl := List.mem_of_getElem? (i := 194) (by decide +kernel)
theorem kl_X6_11 : Cond.methodLinkNest RX6 11 yX7_init "FlipBoard" ∈ lw_tbl := List.mem_of_getElem? (i := 199) (by decide +kernel)
theorem kl_X9_49 : Cond.methodLinkNest RX9 49 yX4_init "FlipBoard" ∈ lw_tbl := List.mem_of_getElem? (i := 218) (by decide +kernel)
theorem kl_X0_31 : Cond.methodLinkNest RX0 31 yX9_copy "FlipBoard" ∈ lw_tbl := List.mem_of_getElem? (i := 291) (by decide +kernel)
theorem kl_X3_28 : Cond.methodLinkNest RX3 28 yX9_copy "FlipBoard" ∈ lw_tbl := List.mem_of_getElem? (i := 304) (by decide +kernel)
theorem kl_X7_28 : Cond.methodLinkNest RX7 28 yX9_copy "FlipBoard" ∈ lw_tbl := List.mem_of_getElem? (i := 309) (by decide +kernel)
theorem kl_X8_54 : Cond.methodLinkNest RX8 54 yX9_copy "FlipBoard" ∈ lw_tbl := List.mem_of_getElem? (i := 310) (by decide +kernel)
theorem kc_L_39 : Cond.classLink RL 39 "FlipBoard" ∈ tbG := tb_at 19 (by decide +kernel) (by decide +kernel)
theorem kc_X9_7 : Cond.classLink RX9 7 "FlipBoard$State" ∈ tbG := tb_at 27 (by decide +kernel) (by decide +kernel)
theorem kc_X8_9 : Cond.classLink RX8 9 "FlipBoard$Dots" ∈ tbG := tb_at 33 (by decide +kernel) (by decide +kernel)
theorem kc_X8_18 : Cond.classLink RX8 18 "FlipBoard$Meter" ∈ tbG := tb_at 66 (by decide +kernel) (by decide +kernel)
theorem kc_X8_25 : Cond.classLink RX8 25 "FlipBoard$Script" ∈ tbG := tb_at 94 (by decide +kernel) (by decide +kernel)
theorem kc_X8_37 : Cond.classLink RX8 37 "[I" ∈ tbG := tb_at 125 (by decide +kernel) (by decide +kernel)
theorem kc_X9_19 : Cond.classLink RX9 19 "FlipBoard$History" ∈ tbG := tb_at 148 (by decide +kernel) (by decide +kernel)
theorem kc_X2_9 : Cond.classLink RX2 9 "FlipBoard$State" ∈ tbG := tb_at 154 (by decide +kernel) (by decide +kernel)
theorem kc_X9_26 : Cond.classLink RX9 26 "FlipBoard$Painter" ∈ tbG := tb_at 168 (by decide +kernel) (by decide +kernel)
theorem kc_X9_33 : Cond.classLink RX9 33 "FlipBoard$Flipper" ∈ tbG := tb_at 182 (by decide +kernel) (by decide +kernel)
theorem kc_X9_40 : Cond.classLink RX9 40 "FlipBoard$Reader" ∈ tbG := tb_at 192 (by decide +kernel) (by decide +kernel)
theorem kc_X6_9 : Cond.classLink RX6 9 "FlipBoard$Script" ∈ tbG := tb_at 198 (by decide +kernel) (by decide +kernel)
theorem kc_X9_47 : Cond.classLink RX9 47 "FlipBoard$Orders" ∈ tbG := tb_at 216 (by decide +kernel) (by decide +kernel)
theorem kc_X4_15 : Cond.classLink RX4 15 "[[I" ∈ tbG := tb_at 222 (by decide +kernel) (by decide +kernel)
theorem kk_L_7 : Cond.constant RL 7 40503 ∈ tbG := tb_at 375 (by decide +kernel) (by decide +kernel)
theorem kk_L_8 : Cond.constant RL 8 2147483647 ∈ tbG := tb_at 379 (by decide +kernel) (by decide +kernel)
theorem kk_L_33 : Cond.constant RL 33 1000000 ∈ tbG := tb_at 383 (by decide +kernel) (by decide +kernel)
theorem kk_X5_54 : Cond.constant RX5 54 2147483647 ∈ tbG := tb_at 441 (by decide +kernel) (by decide +kernel)
theorem kk_J6_265 : Cond.constant RJ6 265 1431655765 ∈ tbG := tb_at 464 (by decide +kernel) (by decide +kernel)
theorem kk_J6_266 : Cond.constant RJ6 266 858993459 ∈ tbG := tb_at 465 (by decide +kernel) (by decide +kernel)
theorem kk_J6_267 : Cond.constant RJ6 267 252645135 ∈ tbG := tb_at 466 (by decide +kernel) (by decide +kernel)
theorem kk_L_19 : Cond.constantLong RL 19 (255) ∈ tbG := tb_at 528 (by decide +kernel) (by decide +kernel)
theorem kk_L_74 : Cond.constantLong RL 74 (-1) ∈ tbG := tb_at 529 (by decide +kernel) (by decide +kernel)
theorem ki_X9 : Cond.instantiable RX9 9 ∈ tbG ∧ Cond.initialized RX9 ∈ tbG := ⟨tb_at 20 (by decide +kernel) (by decide +kernel), tb_at 5 (by decide +kernel) (by decide +kernel)⟩
theorem ki_X8 : Cond.instantiable RX8 4 ∈ tbG ∧ Cond.initialized RX8 ∈ tbG := ⟨tb_at 28 (by decide +kernel) (by decide +kernel), tb_at 6 (by decide +kernel) (by decide +kernel)⟩
theorem ki_X0 : Cond.instantiable RX0 6 ∈ tbG ∧ Cond.initialized RX0 ∈ tbG := ⟨tb_at 34 (by decide +kernel) (by decide +kernel), tb_at 7 (by decide +kernel) (by decide +kernel)⟩
theorem ki_X3 : Cond.instantiable RX3 5 ∈ tbG ∧ Cond.initialized RX3 ∈ tbG := ⟨tb_at 67 (by decide +kernel) (by decide +kernel), tb_at 8 (by decide +kernel) (by decide +kernel)⟩
theorem ki_X7 : Cond.instantiable RX7 5 ∈ tbG ∧ Cond.initialized RX7 ∈ tbG := ⟨tb_at 95 (by decide +kernel) (by decide +kernel), tb_at 9 (by decide +kernel) (by decide +kernel)⟩
theorem ki_X2 : Cond.instantiable RX2 3 ∈ tbG ∧ Cond.initialized RX2 ∈ tbG := ⟨tb_at 149 (by decide +kernel) (by decide +kernel), tb_at 10 (by decide +kernel) (by decide +kernel)⟩
theorem ki_X5 : Cond.instantiable RX5 2 ∈ tbG ∧ Cond.initialized RX5 ∈ tbG := ⟨tb_at 169 (by decide +kernel) (by decide +kernel), tb_at 11 (by decide +kernel) (by decide +kernel)⟩
theorem ki_X1 : Cond.instantiable RX1 1 ∈ tbG ∧ Cond.initialized RX1 ∈ tbG := ⟨tb_at 183 (by decide +kernel) (by decide +kernel), tb_at 12 (by decide +kernel) (by decide +kernel)⟩
theorem ki_X6 : Cond.instantiable RX6 5 ∈ tbG ∧ Cond.initialized RX6 ∈ tbG := ⟨tb_at 193 (by decide +kernel) (by decide +kernel), tb_at 13 (by decide +kernel) (by decide +kernel)⟩
theorem ki_X4 : Cond.instantiable RX4 5 ∈ tbG ∧ Cond.initialized RX4 ∈ tbG := ⟨tb_at 217 (by decide +kernel) (by decide +kernel), tb_at 14 (by decide +kernel) (by decide +kernel)⟩
theorem k_arr : Cond.arrayClass .int ∈ tbG ∧ Cond.arrayOver (.array .int) ∈ lw_tbl ∧ Cond.arrayOver (.object RX8) ∈ lw_tbl ∧ Cond.castable "[I" "java/lang/Cloneable" ∈ lw_tbl := ⟨tb_at 65 (by decide +kernel) (by decide +kernel), List.mem_of_getElem? (i := 223) (by decide +kernel), List.mem_of_getElem? (i := 155) (by decide +kernel), List.mem_of_getElem? (i := 124) (by decide +kernel)⟩
theorem k_arrL : Cond.arrayClass .long ∈ tbG := tb_at 625 (by decide +kernel) (by decide +kernel)
theorem k_cl : Cond.sameMethod "[I" "java/lang/Object" "clone" "()Ljava/lang/Object;" ∈ tbG ∧ Cond.native ⟨"java/lang/Object", "clone", "()Ljava/lang/Object;"⟩ ∈ tbG ∧ Cond.instanceMethod ⟨"java/lang/Object", "clone", "()Ljava/lang/Object;"⟩ ∈ tbG ∧ Cond.selects "[I" ⟨"[I", "clone", "()Ljava/lang/Object;"⟩ ⟨"java/lang/Object", "clone", "()Ljava/lang/Object;"⟩ ∈ tbG := ⟨tb_at 120 (by decide +kernel) (by decide +kernel), tb_at 121 (by decide +kernel) (by decide +kernel), tb_at 122 (by decide +kernel) (by decide +kernel), tb_at 123 (by decide +kernel) (by decide +kernel)⟩
end
section
section AMORE
variable {X : CX} {own : String} {bytes : ByteArray} {ret : Option FieldType} {fr lo mc ms n1 : Nat} {post : Option Value → HP → Prop} {n k sl pc : Nat} {h : HP} {L : List (Option Value)} {st st0 : List Value}
variable {y : MethodName} {b' : ByteArray} {nL' np : Nat} {ret' : Option FieldType} {fr' lo' ix a ci : Nat} {As fs : List Value} {post' : Option Value → HP → Prop} {C : String} {T : u_T} {N : Nat}
abbrev PR (r : Value) (h : HP) : Option Value → HP → Prop := fun v h' => v = some r ∧ h' = h
theorem aw_ialdN (hX : Cx X own bytes ret fr lo mc ms n1 post) (j : Nat) {f : Nat → Int32} {i : Int32} (hh : h a = some (cI N f)) (hi : i = nI j) (hj : j < N) (hN : N < 2 ^ 31) (hdg : decode bytes pc = .ok (.iaload, 1)) (kk : AW X n h k sl (pc + 1) L (.int (f j) :: st)) : AW X n h k sl pc L (.int i :: .ref a :: st) := by
  subst hi
  refine aw_iald hX hh (vp_in_nI hj hN) hdg ?_
  rw [nI_clamp (Nat.lt_trans hj hN)]
  exact kk
theorem aw_iastN (hX : Cx X own bytes ret fr lo mc ms n1 post) (j : Nat) {f : Nat → Int32} {i x : Int32} (hh : h a = some (cI N f)) (hi : i = nI j) (hj : j < N) (hN : N < 2 ^ 31) (hdg : decode bytes pc = .ok (.iastore, 1)) (kk : AW X n (hset h a (cI N (upd f j x))) k sl (pc + 1) L st) : AW X n h k sl pc L (.int x :: .int i :: .ref a :: st) := by
  subst hi
  refine aw_iast hX hh (vp_in_nI hj hN) hdg ?_
  rw [nI_clamp (Nat.lt_trans hj hN)]
  exact kk
theorem aw_laldN (hX : Cx X own bytes ret fr lo mc ms n1 post) (j : Nat) {f : Nat → Int64} {i : Int32} (hh : h a = some (cL N f)) (hi : i = nI j) (hj : j < N) (hN : N < 2 ^ 31) (hdg : decode bytes pc = .ok (.laload, 1)) (kk : AW X n h k sl (pc + 1) L (.long (f j) :: st)) : AW X n h k sl pc L (.int i :: .ref a :: st) := by
  subst hi
  refine aw_lald hX hh (vp_in_nI hj hN) hdg ?_
  rw [nI_clamp (Nat.lt_trans hj hN)]
  exact kk
theorem aw_lastN (hX : Cx X own bytes ret fr lo mc ms n1 post) (j : Nat) {f : Nat → Int64} {i : Int32} {x : Int64} (hh : h a = some (cL N f)) (hi : i = nI j) (hj : j < N) (hN : N < 2 ^ 31) (hdg : decode bytes pc = .ok (.lastore, 1)) (kk : AW X n (hset h a (cL N (vp_updL f j x))) k sl (pc + 1) L st) : AW X n h k sl pc L (.long x :: .int i :: .ref a :: st) := by
  subst hi
  refine aw_last hX hh (vp_in_nI hj hN) hdg ?_
  rw [nI_clamp (Nat.lt_trans hj hN)]
  exact kk
theorem aw_aaldN (hX : Cx X own bytes ret fr lo mc ms n1 post) (j : Nat) {t b : Nat} {g : Nat → Option Nat} {i : Int32} (hh : h a = some (cG t N g)) (ht : t = 1 ∨ t = 2) (hi : i = nI j) (hj : j < N) (hN : N < 2 ^ 31) (hb : g j = some b) (hdg : decode bytes pc = .ok (.aaload, 1)) (kk : AW X n h k sl (pc + 1) L (.ref b :: st)) : AW X n h k sl pc L (.int i :: .ref a :: st) := by
  subst hi
  exact aw_aald hX hh ht (vp_in_nI hj hN) (by rw [nI_clamp (Nat.lt_trans hj hN)]; exact hb) hdg kk
theorem aw_roaldN (hX : Cx X own bytes ret fr lo mc ms n1 post) (j : Nat) {i : Int32} (ha : a < 5) (hi : i = nI j) (hj : j < eN X.E a) (hN : eN X.E a < 2 ^ 31) (hdg : decode bytes pc = .ok (.iaload, 1)) (kk : AW X n h k sl (pc + 1) L (.int (eF X.E a j) :: st)) : AW X n h k sl pc L (.int i :: .ref a :: st) := by
  subst hi
  refine aw_roald hX ha (vp_in_nI hj hN) hdg ?_
  rw [nI_clamp (Nat.lt_trans hj hN)]
  exact kk

theorem aw_callV0 (hX : Cx X own bytes ret fr lo mc ms n1 post) (own2 : String) (ho : own2 = own) (hM : AM X.l y b' nL' ret' fr' lo' 0 0 X.E n h (.ref a :: As) post') (hst0 : As.reverse ++ .ref a :: st = st0) (hy : MF y b' nL' ret' np) (hi : Cond.instanceMethod y ∈ tbG) (hsel : Cond.selects y.cls y y ∈ tbG) (hlink : Cond.methodLink own2 ix y ∈ tbG) (hh : h a = some (cO ci fs)) (hcl : vwCl[ci]? = some (y.cls, T, N)) (hnp : As.length = np) (hR : fr' + 1 ≤ fr ∧ 8 + (nL' + 11) + lo' ≤ lo) (hst : (st.map fun v => v.category).sum ≤ 8) (hdg : decode bytes pc = .ok (.invokevirtual ix, 3)) (hf : k ≤ mc ∧ sl ≤ ms) (kk : ∀ v h', post' v h' → AW X n h' k sl (pc + 3) L (v.toList ++ st)) : AW X n h k sl pc L st0 :=
  aw_callV hX own2 ho hM hst0 hy hi hsel hlink hh hcl hnp hR hst hdg hf kk
theorem aw_callVp (hX : Cx X own bytes ret fr lo mc ms n1 post) (own2 : String) (ho : own2 = own) {r : Value} (hM : AM X.l y b' nL' ret' fr' lo' 0 0 X.E n h (.ref a :: As) (PR r h)) (hst0 : As.reverse ++ .ref a :: st = st0) (hy : MF y b' nL' ret' np) (hi : Cond.instanceMethod y ∈ tbG) (hsel : Cond.selects y.cls y y ∈ tbG) (hlink : Cond.methodLink own2 ix y ∈ tbG) (hh : h a = some (cO ci fs)) (hcl : vwCl[ci]? = some (y.cls, T, N)) (hnp : As.length = np) (hR : fr' + 1 ≤ fr ∧ 8 + (nL' + 11) + lo' ≤ lo) (hst : (st.map fun v => v.category).sum ≤ 8) (hdg : decode bytes pc = .ok (.invokevirtual ix, 3)) (hf : k ≤ mc ∧ sl ≤ ms) (kk : AW X n h k sl (pc + 3) L (r :: st)) : AW X n h k sl pc L st0 :=
  aw_callV hX own2 ho hM hst0 hy hi hsel hlink hh hcl hnp hR hst hdg hf (fun v h' hp => by obtain ⟨rfl, rfl⟩ := hp; exact kk)
theorem aw_callVN0 (hX : Cx X own bytes ret fr lo mc ms n1 post) (own2 host : String) (ho : own2 = own) (hM : AM X.l y b' nL' ret' fr' lo' 0 0 X.E n h (.ref a :: As) post') (hst0 : As.reverse ++ .ref a :: st = st0) (hy : MF y b' nL' ret' np) (hi : Cond.instanceMethod y ∈ tbG) (hsel : Cond.selects y.cls y y ∈ tbG) (hlink : Cond.methodLinkNest own2 ix y host ∈ lw_tbl) (hh : h a = some (cO ci fs)) (hcl : vwCl[ci]? = some (y.cls, T, N)) (hnp : As.length = np) (hR : fr' + 1 ≤ fr ∧ 8 + (nL' + 11) + lo' ≤ lo) (hst : (st.map fun v => v.category).sum ≤ 8) (hdg : decode bytes pc = .ok (.invokevirtual ix, 3)) (hf : k ≤ mc ∧ sl ≤ ms) (kk : ∀ v h', post' v h' → AW X n h' k sl (pc + 3) L (v.toList ++ st)) : AW X n h k sl pc L st0 :=
  aw_callVN hX own2 host ho hM hst0 hy hi hsel hlink hh hcl hnp hR hst hdg hf kk
theorem aw_callVNp (hX : Cx X own bytes ret fr lo mc ms n1 post) (own2 host : String) (ho : own2 = own) {r : Value} (hM : AM X.l y b' nL' ret' fr' lo' 0 0 X.E n h (.ref a :: As) (PR r h)) (hst0 : As.reverse ++ .ref a :: st = st0) (hy : MF y b' nL' ret' np) (hi : Cond.instanceMethod y ∈ tbG) (hsel : Cond.selects y.cls y y ∈ tbG) (hlink : Cond.methodLinkNest own2 ix y host ∈ lw_tbl) (hh : h a = some (cO ci fs)) (hcl : vwCl[ci]? = some (y.cls, T, N)) (hnp : As.length = np) (hR : fr' + 1 ≤ fr ∧ 8 + (nL' + 11) + lo' ≤ lo) (hst : (st.map fun v => v.category).sum ≤ 8) (hdg : decode bytes pc = .ok (.invokevirtual ix, 3)) (hf : k ≤ mc ∧ sl ≤ ms) (kk : AW X n h k sl (pc + 3) L (r :: st)) : AW X n h k sl pc L st0 :=
  aw_callVN hX own2 host ho hM hst0 hy hi hsel hlink hh hcl hnp hR hst hdg hf (fun v h' hp => by obtain ⟨rfl, rfl⟩ := hp; exact kk)
theorem aw_callS0 (hX : Cx X own bytes ret fr lo mc ms n1 post) (own2 : String) (ho : own2 = own) (hM : AM X.l y b' nL' ret' fr' lo' 0 0 X.E n h As post') (hst0 : As.reverse ++ st = st0) (hy : MF y b' nL' ret' np) (hs : Cond.static y ∈ tbG) (hlink : Cond.methodLink own2 ix y ∈ tbG) (hnp : As.length = np) (hR : fr' + 1 ≤ fr ∧ 8 + (nL' + 11) + lo' ≤ lo) (hst : (st.map fun v => v.category).sum ≤ 8) (hdg : decode bytes pc = .ok (.invokestatic ix, 3)) (hf : k ≤ mc ∧ sl ≤ ms) (kk : ∀ v h', post' v h' → AW X n h' k sl (pc + 3) L (v.toList ++ st)) : AW X n h k sl pc L st0 :=
  aw_callS hX own2 ho hM hst0 hy hs hlink hnp hR hst hdg hf kk
theorem aw_callSp (hX : Cx X own bytes ret fr lo mc ms n1 post) (own2 : String) (ho : own2 = own) {r : Value} (hM : AM X.l y b' nL' ret' fr' lo' 0 0 X.E n h As (PR r h)) (hst0 : As.reverse ++ st = st0) (hy : MF y b' nL' ret' np) (hs : Cond.static y ∈ tbG) (hlink : Cond.methodLink own2 ix y ∈ tbG) (hnp : As.length = np) (hR : fr' + 1 ≤ fr ∧ 8 + (nL' + 11) + lo' ≤ lo) (hst : (st.map fun v => v.category).sum ≤ 8) (hdg : decode bytes pc = .ok (.invokestatic ix, 3)) (hf : k ≤ mc ∧ sl ≤ ms) (kk : AW X n h k sl (pc + 3) L (r :: st)) : AW X n h k sl pc L st0 :=
  aw_callS hX own2 ho hM hst0 hy hs hlink hnp hR hst hdg hf (fun v h' hp => by obtain ⟨rfl, rfl⟩ := hp; exact kk)
theorem aw_callSN0 (hX : Cx X own bytes ret fr lo mc ms n1 post) (own2 host : String) (ho : own2 = own) (hM : AM X.l y b' nL' ret' fr' lo' 0 0 X.E n h As post') (hst0 : As.reverse ++ st = st0) (hy : MF y b' nL' ret' np) (hs : Cond.static y ∈ tbG) (hlink : Cond.methodLinkNest own2 ix y host ∈ lw_tbl) (hnp : As.length = np) (hR : fr' + 1 ≤ fr ∧ 8 + (nL' + 11) + lo' ≤ lo) (hst : (st.map fun v => v.category).sum ≤ 8) (hdg : decode bytes pc = .ok (.invokestatic ix, 3)) (hf : k ≤ mc ∧ sl ≤ ms) (kk : ∀ v h', post' v h' → AW X n h' k sl (pc + 3) L (v.toList ++ st)) : AW X n h k sl pc L st0 :=
  aw_callSN hX own2 host ho hM hst0 hy hs hlink hnp hR hst hdg hf kk
theorem aw_callSNp (hX : Cx X own bytes ret fr lo mc ms n1 post) (own2 host : String) (ho : own2 = own) {r : Value} (hM : AM X.l y b' nL' ret' fr' lo' 0 0 X.E n h As (PR r h)) (hst0 : As.reverse ++ st = st0) (hy : MF y b' nL' ret' np) (hs : Cond.static y ∈ tbG) (hlink : Cond.methodLinkNest own2 ix y host ∈ lw_tbl) (hnp : As.length = np) (hR : fr' + 1 ≤ fr ∧ 8 + (nL' + 11) + lo' ≤ lo) (hst : (st.map fun v => v.category).sum ≤ 8) (hdg : decode bytes pc = .ok (.invokestatic ix, 3)) (hf : k ≤ mc ∧ sl ≤ ms) (kk : AW X n h k sl (pc + 3) L (r :: st)) : AW X n h k sl pc L st0 :=
  aw_callSN hX own2 host ho hM hst0 hy hs hlink hnp hR hst hdg hf (fun v h' hp => by obtain ⟨rfl, rfl⟩ := hp; exact kk)
end AMORE
/-- outside lo .. hi - 1 nothing has changed -/
def Sm (lo hi : Nat) (h h' : HP) : Prop := ∀ q, (q < lo ∨ hi ≤ q) → h' q = h q
theorem Sm.rf {lo hi : Nat} {h : HP} : Sm lo hi h h := fun _ _ => rfl
theorem Sm.set {lo hi a : Nat} {h h' : HP} {c : AC} (s : Sm lo hi h h') (h1 : lo ≤ a) (h2 : a < hi) : Sm lo hi h (hset h' a c) := fun q hq => (hset_ne h' c (by omega)).trans (s q hq)
theorem Sm.tr {lo hi lo' hi' : Nat} {h h1 h2 : HP} (s : Sm lo hi h h1) (t : Sm lo' hi' h1 h2) (g1 : lo ≤ lo') (g2 : hi' ≤ hi) : Sm lo hi h h2 := fun q hq => (t q (by omega)).trans (s q hq)
theorem Sm.at {lo hi : Nat} {h h' : HP} (s : Sm lo hi h h') {q : Nat} (hq : q < lo ∨ hi ≤ q) : h' q = h q := s q hq
theorem sw_cases (hi : Nat) (x : Int32) (hh : hi < 2 ^ 31) : (x.toInt < 0 ∨ (hi : Int) < x.toInt) ∨ ∃ j : Nat, j ≤ hi ∧ x = nI j := by
  by_cases h1 : x.toInt < 0
  · exact Or.inl (Or.inl h1)
  · by_cases h2 : (hi : Int) < x.toInt
    · exact Or.inl (Or.inr h2)
    · refine Or.inr ⟨x.toInt.toNat, by omega, Int32.toInt_inj.mp ?_⟩
      rw [nI_toInt (by omega)]
      omega
def bI (p : Prop) [Decidable p] : Int32 := if p then 1 else 0
theorem bI_t {p : Prop} [Decidable p] (h : p) : bI p = 1 := if_pos h
theorem bI_f {p : Prop} [Decidable p] (h : ¬ p) : bI p = 0 := if_neg h
theorem bI_01 (p : Prop) [Decidable p] : bI p = 0 ∨ bI p = 1 := by by_cases h : p <;> simp [bI, h]
theorem bI_eq0 {p : Prop} [Decidable p] : bI p = 0 ↔ ¬ p := by by_cases h : p <;> simp [bI, h]
theorem prT {p : Prop} [Decidable p] {h : HP} (q : p) : PR (.int (bI p)) h (some (.int 1)) h := ⟨by rw [bI_t q], rfl⟩
theorem prF {p : Prop} [Decidable p] {h : HP} (q : ¬ p) : PR (.int (bI p)) h (some (.int 0)) h := ⟨by rw [bI_f q], rfl⟩
def sumI (f : Nat → Int32) : Nat → Int32
  | 0 => 0
  | n + 1 => sumI f n + f n

abbrev MX0_init (l : Launch) (E : EV) (n : Nat) (h : HP) (As : List Value) (post : Option Value → HP → Prop) : Prop := AM l yX0_init cX0_init 1 none 1 20 5 440 E n h As post
abbrev MJ9_min_7cf53 (l : Launch) (E : EV) (n : Nat) (h : HP) (As : List Value) (post : Option Value → HP → Prop) : Prop := AM l yJ9_min_7cf53 cJ9_min_7cf53 2 (some .int) 0 0 0 0 E n h As post
abbrev MX9_copy (l : Launch) (E : EV) (n : Nat) (h : HP) (As : List Value) (post : Option Value → HP → Prop) : Prop := AM l yX9_copy cX9_copy 2 none 1 60 0 0 E n h As post
abbrev MX0_copyFrom (l : Launch) (E : EV) (n : Nat) (h : HP) (As : List Value) (post : Option Value → HP → Prop) : Prop := AM l yX0_copyFrom cX0_copyFrom 2 none 2 81 0 0 E n h As post
abbrev MJ7_fill_53178 (l : Launch) (E : EV) (n : Nat) (h : HP) (As : List Value) (post : Option Value → HP → Prop) : Prop := AM l yJ7_fill_53178 cJ7_fill_53178 4 none 0 0 0 0 E n h As post
abbrev MX0_renew (l : Launch) (E : EV) (n : Nat) (h : HP) (As : List Value) (post : Option Value → HP → Prop) : Prop := AM l yX0_renew cX0_renew 2 none 1 23 0 0 E n h As post
abbrev MX0_hasColumn (l : Launch) (E : EV) (n : Nat) (h : HP) (As : List Value) (post : Option Value → HP → Prop) : Prop := AM l yX0_hasColumn cX0_hasColumn 2 (some .boolean) 0 0 0 0 E n h As post
abbrev MX0_hasDot (l : Launch) (E : EV) (n : Nat) (h : HP) (As : List Value) (post : Option Value → HP → Prop) : Prop := AM l yX0_hasDot cX0_hasDot 3 (some .boolean) 1 21 0 0 E n h As post
abbrev MX0_aimAt (l : Launch) (E : EV) (n : Nat) (h : HP) (As : List Value) (post : Option Value → HP → Prop) : Prop := AM l yX0_aimAt cX0_aimAt 2 none 2 81 0 0 E n h As post
abbrev MX0_aimAtDark (l : Launch) (E : EV) (n : Nat) (h : HP) (As : List Value) (post : Option Value → HP → Prop) : Prop := AM l yX0_aimAtDark cX0_aimAtDark 1 none 1 23 0 0 E n h As post
abbrev MX0_dueBits (l : Launch) (E : EV) (n : Nat) (h : HP) (As : List Value) (post : Option Value → HP → Prop) : Prop := AM l yX0_dueBits cX0_dueBits 2 (some .int) 1 21 0 0 E n h As post
abbrev MJ6_bitCount_0f7a4 (l : Launch) (E : EV) (n : Nat) (h : HP) (As : List Value) (post : Option Value → HP → Prop) : Prop := AM l yJ6_bitCount_0f7a4 cJ6_bitCount_0f7a4 1 (some .int) 0 0 0 0 E n h As post
abbrev MX0_differing (l : Launch) (E : EV) (n : Nat) (h : HP) (As : List Value) (post : Option Value → HP → Prop) : Prop := AM l yX0_differing cX0_differing 6 (some .int) 1 20 0 0 E n h As post
abbrev MX0_dueDots (l : Launch) (E : EV) (n : Nat) (h : HP) (As : List Value) (post : Option Value → HP → Prop) : Prop := AM l yX0_dueDots cX0_dueDots 1 (some .int) 2 45 0 0 E n h As post
abbrev MX0_dotsIn (l : Launch) (E : EV) (n : Nat) (h : HP) (As : List Value) (post : Option Value → HP → Prop) : Prop := AM l yX0_dotsIn cX0_dotsIn 3 (some .int) 1 20 0 0 E n h As post
abbrev MX0_stuckDots (l : Launch) (E : EV) (n : Nat) (h : HP) (As : List Value) (post : Option Value → HP → Prop) : Prop := AM l yX0_stuckDots cX0_stuckDots 1 (some .int) 2 42 0 0 E n h As post
abbrev MX0_knownDots (l : Launch) (E : EV) (n : Nat) (h : HP) (As : List Value) (post : Option Value → HP → Prop) : Prop := AM l yX0_knownDots cX0_knownDots 1 (some .int) 2 42 0 0 E n h As post
abbrev MX0_otherDots (l : Launch) (E : EV) (n : Nat) (h : HP) (As : List Value) (post : Option Value → HP → Prop) : Prop := AM l yX0_otherDots cX0_otherDots 3 (some .int) 1 20 0 0 E n h As post
abbrev MX0_knownAgainst (l : Launch) (E : EV) (n : Nat) (h : HP) (As : List Value) (post : Option Value → HP → Prop) : Prop := AM l yX0_knownAgainst cX0_knownAgainst 5 (some .int) 1 20 0 0 E n h As post
abbrev MX0_isStuck (l : Launch) (E : EV) (n : Nat) (h : HP) (As : List Value) (post : Option Value → HP → Prop) : Prop := AM l yX0_isStuck cX0_isStuck 3 (some .boolean) 2 43 0 0 E n h As post
abbrev MX0_stick (l : Launch) (E : EV) (n : Nat) (h : HP) (As : List Value) (post : Option Value → HP → Prop) : Prop := AM l yX0_stick cX0_stick 3 none 2 43 0 0 E n h As post
abbrev MX0_makeKnown (l : Launch) (E : EV) (n : Nat) (h : HP) (As : List Value) (post : Option Value → HP → Prop) : Prop := AM l yX0_makeKnown cX0_makeKnown 3 none 2 43 0 0 E n h As post
abbrev MX0_flip (l : Launch) (E : EV) (n : Nat) (h : HP) (As : List Value) (post : Option Value → HP → Prop) : Prop := AM l yX0_flip cX0_flip 3 none 2 43 0 0 E n h As post
abbrev MX0_flipsOf (l : Launch) (E : EV) (n : Nat) (h : HP) (As : List Value) (post : Option Value → HP → Prop) : Prop := AM l yX0_flipsOf cX0_flipsOf 3 (some .int) 2 43 0 0 E n h As post
abbrev MX0_renewDot (l : Launch) (E : EV) (n : Nat) (h : HP) (As : List Value) (post : Option Value → HP → Prop) : Prop := AM l yX0_renewDot cX0_renewDot 3 none 2 43 0 0 E n h As post
abbrev MX1_init (l : Launch) (E : EV) (n : Nat) (h : HP) (As : List Value) (post : Option Value → HP → Prop) : Prop := AM l yX1_init cX1_init 1 none 1 20 1 40 E n h As post
abbrev MX1_arrangeByDueDots (l : Launch) (E : EV) (n : Nat) (h : HP) (As : List Value) (post : Option Value → HP → Prop) : Prop := AM l yX1_arrangeByDueDots cX1_arrangeByDueDots 6 none 2 42 0 0 E n h As post
abbrev MX1_arrange (l : Launch) (E : EV) (n : Nat) (h : HP) (As : List Value) (post : Option Value → HP → Prop) : Prop := AM l yX1_arrange cX1_arrange 4 none 3 67 0 0 E n h As post
abbrev MX8_tryDot (l : Launch) (E : EV) (n : Nat) (h : HP) (As : List Value) (post : Option Value → HP → Prop) : Prop := AM l yX8_tryDot cX8_tryDot 3 none 3 65 0 0 E n h As post
abbrev MX1_flipColumn (l : Launch) (E : EV) (n : Nat) (h : HP) (As : List Value) (post : Option Value → HP → Prop) : Prop := AM l yX1_flipColumn cX1_flipColumn 7 (some .int) 4 87 0 0 E n h As post
abbrev MJ9_floorMod_7cf53 (l : Launch) (E : EV) (n : Nat) (h : HP) (As : List Value) (post : Option Value → HP → Prop) : Prop := AM l yJ9_floorMod_7cf53 cJ9_floorMod_7cf53 3 (some .int) 0 0 0 0 E n h As post
abbrev MX3_addSecond (l : Launch) (E : EV) (n : Nat) (h : HP) (As : List Value) (post : Option Value → HP → Prop) : Prop := AM l yX3_addSecond cX3_addSecond 2 none 1 22 0 0 E n h As post
abbrev MX1_passSecond (l : Launch) (E : EV) (n : Nat) (h : HP) (As : List Value) (post : Option Value → HP → Prop) : Prop := AM l yX1_passSecond cX1_passSecond 6 none 5 113 0 0 E n h As post
abbrev MX3_init (l : Launch) (E : EV) (n : Nat) (h : HP) (As : List Value) (post : Option Value → HP → Prop) : Prop := AM l yX3_init cX3_init 1 none 1 20 1 20 E n h As post
abbrev MX7_init (l : Launch) (E : EV) (n : Nat) (h : HP) (As : List Value) (post : Option Value → HP → Prop) : Prop := AM l yX7_init cX7_init 1 none 1 20 4 260 E n h As post
abbrev MX8_init (l : Launch) (E : EV) (n : Nat) (h : HP) (As : List Value) (post : Option Value → HP → Prop) : Prop := AM l yX8_init cX8_init 1 none 2 40 14 739 E n h As post
abbrev MX2_init (l : Launch) (E : EV) (n : Nat) (h : HP) (As : List Value) (post : Option Value → HP → Prop) : Prop := AM l yX2_init cX2_init 2 none 3 60 91 4464 E n h As post
abbrev MX2_stateAt (l : Launch) (E : EV) (n : Nat) (h : HP) (As : List Value) (post : Option Value → HP → Prop) : Prop := AM l yX2_stateAt cX2_stateAt 2 (some (.object "FlipBoard$State")) 1 22 0 0 E n h As post
abbrev MX3_copyFrom (l : Launch) (E : EV) (n : Nat) (h : HP) (As : List Value) (post : Option Value → HP → Prop) : Prop := AM l yX3_copyFrom cX3_copyFrom 2 none 2 81 0 0 E n h As post
abbrev MX7_copyFrom (l : Launch) (E : EV) (n : Nat) (h : HP) (As : List Value) (post : Option Value → HP → Prop) : Prop := AM l yX7_copyFrom cX7_copyFrom 2 none 2 81 0 0 E n h As post
abbrev MX8_copyFrom (l : Launch) (E : EV) (n : Nat) (h : HP) (As : List Value) (post : Option Value → HP → Prop) : Prop := AM l yX8_copyFrom cX8_copyFrom 2 none 3 102 0 0 E n h As post
abbrev MX2_keep (l : Launch) (E : EV) (n : Nat) (h : HP) (As : List Value) (post : Option Value → HP → Prop) : Prop := AM l yX2_keep cX2_keep 3 none 4 123 0 0 E n h As post
abbrev MX3_renew (l : Launch) (E : EV) (n : Nat) (h : HP) (As : List Value) (post : Option Value → HP → Prop) : Prop := AM l yX3_renew cX3_renew 1 none 1 23 0 0 E n h As post
abbrev MX3_powerOf (l : Launch) (E : EV) (n : Nat) (h : HP) (As : List Value) (post : Option Value → HP → Prop) : Prop := AM l yX3_powerOf cX3_powerOf 2 (some .int) 1 22 0 0 E n h As post
abbrev MX4_init (l : Launch) (E : EV) (n : Nat) (h : HP) (As : List Value) (post : Option Value → HP → Prop) : Prop := AM l yX4_init cX4_init 1 none 1 20 48 518 E n h As post
abbrev MX7_hasMessage (l : Launch) (E : EV) (n : Nat) (h : HP) (As : List Value) (post : Option Value → HP → Prop) : Prop := AM l yX7_hasMessage cX7_hasMessage 2 (some .boolean) 0 0 0 0 E n h As post
abbrev MX7_lengthOf (l : Launch) (E : EV) (n : Nat) (h : HP) (As : List Value) (post : Option Value → HP → Prop) : Prop := AM l yX7_lengthOf cX7_lengthOf 2 (some .int) 1 21 0 0 E n h As post
abbrev MJ9_max_7cf53 (l : Launch) (E : EV) (n : Nat) (h : HP) (As : List Value) (post : Option Value → HP → Prop) : Prop := AM l yJ9_max_7cf53 cJ9_max_7cf53 2 (some .int) 0 0 0 0 E n h As post
abbrev MX7_characterOf (l : Launch) (E : EV) (n : Nat) (h : HP) (As : List Value) (post : Option Value → HP → Prop) : Prop := AM l yX7_characterOf cX7_characterOf 4 (some .int) 1 21 0 0 E n h As post
abbrev MX7_isLetter (l : Launch) (E : EV) (n : Nat) (h : HP) (As : List Value) (post : Option Value → HP → Prop) : Prop := AM l yX7_isLetter cX7_isLetter 2 (some .boolean) 0 0 0 0 E n h As post
abbrev MX7_widthOf (l : Launch) (E : EV) (n : Nat) (h : HP) (As : List Value) (post : Option Value → HP → Prop) : Prop := AM l yX7_widthOf cX7_widthOf 2 (some .int) 1 21 0 0 E n h As post
abbrev MX7_stripColumns (l : Launch) (E : EV) (n : Nat) (h : HP) (As : List Value) (post : Option Value → HP → Prop) : Prop := AM l yX7_stripColumns cX7_stripColumns 5 (some .int) 2 44 0 0 E n h As post
abbrev MX7_columnOf (l : Launch) (E : EV) (n : Nat) (h : HP) (As : List Value) (post : Option Value → HP → Prop) : Prop := AM l yX7_columnOf cX7_columnOf 4 (some .int) 1 21 0 0 E n h As post
abbrev MX7_stripBits (l : Launch) (E : EV) (n : Nat) (h : HP) (As : List Value) (post : Option Value → HP → Prop) : Prop := AM l yX7_stripBits cX7_stripBits 7 (some .int) 2 44 0 0 E n h As post
abbrev MX5_draw (l : Launch) (E : EV) (n : Nat) (h : HP) (As : List Value) (post : Option Value → HP → Prop) : Prop := AM l yX5_draw cX5_draw 9 none 3 70 0 0 E n h As post
abbrev MX5_init (l : Launch) (E : EV) (n : Nat) (h : HP) (As : List Value) (post : Option Value → HP → Prop) : Prop := AM l yX5_init cX5_init 1 none 1 20 2 80 E n h As post
abbrev MX5_bestShiftOf (l : Launch) (E : EV) (n : Nat) (h : HP) (As : List Value) (post : Option Value → HP → Prop) : Prop := AM l yX5_bestShiftOf cX5_bestShiftOf 12 (some .int) 4 98 0 0 E n h As post
abbrev MX5_drawAs (l : Launch) (E : EV) (n : Nat) (h : HP) (As : List Value) (post : Option Value → HP → Prop) : Prop := AM l yX5_drawAs cX5_drawAs 5 none 5 129 0 0 E n h As post
abbrev MX6_init (l : Launch) (E : EV) (n : Nat) (h : HP) (As : List Value) (post : Option Value → HP → Prop) : Prop := AM l yX6_init cX6_init 1 none 2 40 5 265 E n h As post
abbrev MX7_startMessage (l : Launch) (E : EV) (n : Nat) (h : HP) (As : List Value) (post : Option Value → HP → Prop) : Prop := AM l yX7_startMessage cX7_startMessage 1 none 0 0 0 0 E n h As post
abbrev MX7_putColumn (l : Launch) (E : EV) (n : Nat) (h : HP) (As : List Value) (post : Option Value → HP → Prop) : Prop := AM l yX7_putColumn cX7_putColumn 4 none 1 21 0 0 E n h As post
abbrev MX7_addCharacter (l : Launch) (E : EV) (n : Nat) (h : HP) (As : List Value) (post : Option Value → HP → Prop) : Prop := AM l yX7_addCharacter cX7_addCharacter 4 none 2 42 0 0 E n h As post
abbrev MX7_dropMessage (l : Launch) (E : EV) (n : Nat) (h : HP) (As : List Value) (post : Option Value → HP → Prop) : Prop := AM l yX7_dropMessage cX7_dropMessage 5 none 1 21 0 0 E n h As post
abbrev MX8_hasNumber (l : Launch) (E : EV) (n : Nat) (h : HP) (As : List Value) (post : Option Value → HP → Prop) : Prop := AM l yX8_hasNumber cX8_hasNumber 2 (some .boolean) 0 0 0 0 E n h As post
abbrev MX9_init (l : Launch) (E : EV) (n : Nat) (h : HP) (As : List Value) (post : Option Value → HP → Prop) : Prop := AM l yX9_init cX9_init 1 none 4 81 183 6989 E n h As post
abbrev MX9_begin (l : Launch) (E : EV) (n : Nat) (h : HP) (As : List Value) (post : Option Value → HP → Prop) : Prop := AM l yX9_begin cX9_begin 3 (some .int) 5 145 0 0 E n h As post
abbrev MX9_setNumber (l : Launch) (E : EV) (n : Nat) (h : HP) (As : List Value) (post : Option Value → HP → Prop) : Prop := AM l yX9_setNumber cX9_setNumber 4 (some .int) 5 145 0 0 E n h As post
abbrev MX9_setColumn (l : Launch) (E : EV) (n : Nat) (h : HP) (As : List Value) (post : Option Value → HP → Prop) : Prop := AM l yX9_setColumn cX9_setColumn 4 (some .int) 5 145 0 0 E n h As post
abbrev MX9_addMessage (l : Launch) (E : EV) (n : Nat) (h : HP) (As : List Value) (post : Option Value → HP → Prop) : Prop := AM l yX9_addMessage cX9_addMessage 3 (some .int) 5 145 0 0 E n h As post
abbrev MX9_removeMessage (l : Launch) (E : EV) (n : Nat) (h : HP) (As : List Value) (post : Option Value → HP → Prop) : Prop := AM l yX9_removeMessage cX9_removeMessage 2 (some .int) 5 145 0 0 E n h As post
abbrev MX9_canShow (l : Launch) (E : EV) (n : Nat) (h : HP) (As : List Value) (post : Option Value → HP → Prop) : Prop := AM l yX9_canShow cX9_canShow 3 (some .boolean) 1 21 0 0 E n h As post
abbrev MX9_show (l : Launch) (E : EV) (n : Nat) (h : HP) (As : List Value) (post : Option Value → HP → Prop) : Prop := AM l yX9_show cX9_show 3 (some .int) 6 153 0 0 E n h As post
abbrev MX9_darken (l : Launch) (E : EV) (n : Nat) (h : HP) (As : List Value) (post : Option Value → HP → Prop) : Prop := AM l yX9_darken cX9_darken 1 (some .int) 5 145 0 0 E n h As post
abbrev MX9_jam (l : Launch) (E : EV) (n : Nat) (h : HP) (As : List Value) (post : Option Value → HP → Prop) : Prop := AM l yX9_jam cX9_jam 3 (some .int) 5 145 0 0 E n h As post
abbrev MX9_mend (l : Launch) (E : EV) (n : Nat) (h : HP) (As : List Value) (post : Option Value → HP → Prop) : Prop := AM l yX9_mend cX9_mend 4 (some .int) 5 145 0 0 E n h As post
abbrev MX9_pass (l : Launch) (E : EV) (n : Nat) (h : HP) (As : List Value) (post : Option Value → HP → Prop) : Prop := AM l yX9_pass cX9_pass 3 (some .int) 6 145 0 0 E n h As post
abbrev MX9_count (l : Launch) (E : EV) (n : Nat) (h : HP) (As : List Value) (post : Option Value → HP → Prop) : Prop := AM l yX9_count cX9_count 2 (some .int) 3 65 0 0 E n h As post
abbrev MX9_column (l : Launch) (E : EV) (n : Nat) (h : HP) (As : List Value) (post : Option Value → HP → Prop) : Prop := AM l yX9_column cX9_column 3 (some .int) 1 21 0 0 E n h As post
abbrev MX9_flips (l : Launch) (E : EV) (n : Nat) (h : HP) (As : List Value) (post : Option Value → HP → Prop) : Prop := AM l yX9_flips cX9_flips 3 (some .int) 3 65 0 0 E n h As post
abbrev MX9_letter (l : Launch) (E : EV) (n : Nat) (h : HP) (As : List Value) (post : Option Value → HP → Prop) : Prop := AM l yX9_letter cX9_letter 3 (some .int) 2 44 0 0 E n h As post
abbrev MX9_message (l : Launch) (E : EV) (n : Nat) (h : HP) (As : List Value) (post : Option Value → HP → Prop) : Prop := AM l yX9_message cX9_message 3 (some .int) 2 44 0 0 E n h As post
abbrev MX9_strip (l : Launch) (E : EV) (n : Nat) (h : HP) (As : List Value) (post : Option Value → HP → Prop) : Prop := AM l yX9_strip cX9_strip 2 (some .int) 3 68 0 0 E n h As post
abbrev MX9_power (l : Launch) (E : EV) (n : Nat) (h : HP) (As : List Value) (post : Option Value → HP → Prop) : Prop := AM l yX9_power cX9_power 2 (some .int) 2 43 0 0 E n h As post
abbrev ML_cell (l : Launch) (E : EV) (n : Nat) (h : HP) (As : List Value) (post : Option Value → HP → Prop) : Prop := AM l yL_cell cL_cell 2 (some .int) 0 0 0 0 E n h As post
abbrev ML_low (l : Launch) (E : EV) (n : Nat) (h : HP) (As : List Value) (post : Option Value → HP → Prop) : Prop := AM l yL_low cL_low 2 (some .int) 0 0 0 0 E n h As post
abbrev ML_bits (l : Launch) (E : EV) (n : Nat) (h : HP) (As : List Value) (post : Option Value → HP → Prop) : Prop := AM l yL_bits cL_bits 3 (some .int) 0 0 0 0 E n h As post
abbrev ML_strip (l : Launch) (E : EV) (n : Nat) (h : HP) (As : List Value) (post : Option Value → HP → Prop) : Prop := AM l yL_strip cL_strip 5 (some .int) 0 0 0 0 E n h As post
abbrev ML_picture (l : Launch) (E : EV) (n : Nat) (h : HP) (As : List Value) (post : Option Value → HP → Prop) : Prop := AM l yL_picture cL_picture 11 (some .int) 1 24 0 0 E n h As post
abbrev ML_due (l : Launch) (E : EV) (n : Nat) (h : HP) (As : List Value) (post : Option Value → HP → Prop) : Prop := AM l yL_due cL_due 4 (some .int) 1 22 0 0 E n h As post
abbrev ML_goes (l : Launch) (E : EV) (n : Nat) (h : HP) (As : List Value) (post : Option Value → HP → Prop) : Prop := AM l yL_goes cL_goes 8 (some .int) 0 0 0 0 E n h As post
abbrev ML_second (l : Launch) (E : EV) (n : Nat) (h : HP) (As : List Value) (post : Option Value → HP → Prop) : Prop := AM l yL_second cL_second 8 none 1 27 1 16 E n h As post
abbrev ML_wrong (l : Launch) (E : EV) (n : Nat) (h : HP) (As : List Value) (post : Option Value → HP → Prop) : Prop := AM l yL_wrong cL_wrong 10 (some .int) 2 54 0 0 E n h As post
abbrev ML_best (l : Launch) (E : EV) (n : Nat) (h : HP) (As : List Value) (post : Option Value → HP → Prop) : Prop := AM l yL_best cL_best 10 (some .int) 3 83 0 0 E n h As post
abbrev ML_isSo (l : Launch) (E : EV) (n : Nat) (h : HP) (As : List Value) (post : Option Value → HP → Prop) : Prop := AM l yL_isSo cL_isSo 12 (some .boolean) 4 90 0 0 E n h As post
abbrev ML_acts (c : Nat) (l : Launch) (E : EV) (n : Nat) (h : HP) (As : List Value) (post : Option Value → HP → Prop) : Prop := AM l yL_acts cL_acts 26 (some .boolean) 7 180 c (16 * c) E n h As post
end
section
/-! what the modules hold -/
abbrev IF : Type := Nat → Int32
def HDots (h : HP) (d : Nat) (w : Int32) (sh ai st kn fl : IF) : Prop :=
  h d = some (cO 0 [.int w, .ref (d + 1), .ref (d + 2), .ref (d + 3), .ref (d + 4), .ref (d + 5)]) ∧ h (d + 1) = some (cI 40 sh) ∧ h (d + 2) = some (cI 40 ai) ∧ h (d + 3) = some (cI 40 st) ∧ h (d + 4) = some (cI 40 kn) ∧ h (d + 5) = some (cI 280 fl)
theorem HDots.sm {h h' : HP} {d lo hi : Nat} {w : Int32} {sh ai st kn fl : IF} (H : HDots h d w sh ai st kn fl) (s : Sm lo hi h h') (hq : hi ≤ d ∨ d + 6 ≤ lo) : HDots h' d w sh ai st kn fl :=
  ⟨(s.at (by omega)).trans H.1, (s.at (by omega)).trans H.2.1, (s.at (by omega)).trans H.2.2.1, (s.at (by omega)).trans H.2.2.2.1, (s.at (by omega)).trans H.2.2.2.2.1, (s.at (by omega)).trans H.2.2.2.2.2⟩
theorem tX0_hasColumn (l : Launch) (E : EV) (n : Nat) {h : HP} {d : Nat} {w : Int32} {sh ai st kn fl : IF} (H : HDots h d w sh ai st kn fl) (c : Int32) : MX0_hasColumn l E n h [.ref d, .int c] (PR (.int (bI (0 ≤ c ∧ c < w ∧ c < 40))) h) := by
  obtain ⟨e0, e1, e2, e3, e4, e5⟩ := H
  refine AM.intro mf_X0_hasColumn (by simp [Value.category]) (Nat.le_of_ble_eq_true rfl) (fun X hl hE hnm hX => ?_)
  subst hl
  subst hE
  show AW X _ _ 0 0 0 [some (.ref d), some (.int c)] []
  refine aw_iload_n hX dX0_hasColumn_0 rfl ?_
  refine aw_if_lt hX 22 dX0_hasColumn_1 (by decide) (fun c_1 => ?_) (fun c_1 => ?_)
  · refine aw_iconst hX (0) dX0_hasColumn_22 (by decide) ?_
    exact aw_zret hX rfl (by first | exact Or.inl rfl | exact Or.inr rfl | assumption) rfl rfl rfl dX0_hasColumn_23 (by first | exact prT (by simp only [bI_eq0, Decidable.not_not, Int32.lt_iff_toInt_lt, Int32.le_iff_toInt_le, Int32.reduceToInt] at c_1 ⊢; omega) | exact prF (by simp only [bI_eq0, Decidable.not_not, Int32.lt_iff_toInt_lt, Int32.le_iff_toInt_le, Int32.reduceToInt] at c_1 ⊢; omega))
  · refine aw_iload_n hX dX0_hasColumn_4 rfl ?_
    refine aw_aload_n hX dX0_hasColumn_5 rfl ?_
    refine gt_X0_9 hX dX0_hasColumn_6 (by assumption) (by exact rfl) ?_
    refine aw_icmp_ge hX 22 dX0_hasColumn_9 (by decide) (fun c_9 => ?_) (fun c_9 => ?_)
    · refine aw_iconst hX (0) dX0_hasColumn_22 (by decide) ?_
      exact aw_zret hX rfl (by first | exact Or.inl rfl | exact Or.inr rfl | assumption) rfl rfl rfl dX0_hasColumn_23 (by first | exact prT (by simp only [bI_eq0, Decidable.not_not, Int32.lt_iff_toInt_lt, Int32.le_iff_toInt_le, Int32.reduceToInt] at c_1 c_9 ⊢; omega) | exact prF (by simp only [bI_eq0, Decidable.not_not, Int32.lt_iff_toInt_lt, Int32.le_iff_toInt_le, Int32.reduceToInt] at c_1 c_9 ⊢; omega))
    · refine aw_iload_n hX dX0_hasColumn_12 rfl ?_
      refine aw_bipush hX (40) dX0_hasColumn_13 (by decide) ?_
      refine aw_icmp_ge hX 22 dX0_hasColumn_15 (by decide) (fun c_15 => ?_) (fun c_15 => ?_)
      · refine aw_iconst hX (0) dX0_hasColumn_22 (by decide) ?_
        exact aw_zret hX rfl (by first | exact Or.inl rfl | exact Or.inr rfl | assumption) rfl rfl rfl dX0_hasColumn_23 (by first | exact prT (by simp only [bI_eq0, Decidable.not_not, Int32.lt_iff_toInt_lt, Int32.le_iff_toInt_le, Int32.reduceToInt] at c_1 c_9 c_15 ⊢; omega) | exact prF (by simp only [bI_eq0, Decidable.not_not, Int32.lt_iff_toInt_lt, Int32.le_iff_toInt_le, Int32.reduceToInt] at c_1 c_9 c_15 ⊢; omega))
      · refine aw_iconst hX (1) dX0_hasColumn_18 (by decide) ?_
        refine aw_goto hX 23 dX0_hasColumn_19 (by decide) ?_
        exact aw_zret hX rfl (by first | exact Or.inl rfl | exact Or.inr rfl | assumption) rfl rfl rfl dX0_hasColumn_23 (by first | exact prT (by simp only [bI_eq0, Decidable.not_not, Int32.lt_iff_toInt_lt, Int32.le_iff_toInt_le, Int32.reduceToInt] at c_1 c_9 c_15 ⊢; omega) | exact prF (by simp only [bI_eq0, Decidable.not_not, Int32.lt_iff_toInt_lt, Int32.le_iff_toInt_le, Int32.reduceToInt] at c_1 c_9 c_15 ⊢; omega))
theorem tX0_hasDot (l : Launch) (E : EV) (n : Nat) {h : HP} {d : Nat} {w : Int32} {sh ai st kn fl : IF} (H : HDots h d w sh ai st kn fl) (c r : Int32) : MX0_hasDot l E n h [.ref d, .int c, .int r] (PR (.int (bI ((0 ≤ c ∧ c < w ∧ c < 40) ∧ 0 ≤ r ∧ r < 7))) h) := by
  have e := H
  obtain ⟨e0, e1, e2, e3, e4, e5⟩ := H
  refine AM.intro mf_X0_hasDot (by simp [Value.category]) (Nat.le_of_ble_eq_true rfl) (fun X hl hE hnm hX => ?_)
  subst hl
  subst hE
  show AW X _ _ 0 0 0 [some (.ref d), some (.int c), some (.int r)] []
  refine aw_aload_n hX dX0_hasDot_0 rfl ?_
  refine aw_iload_n hX dX0_hasDot_1 rfl ?_
  refine aw_callVp hX RX0 rfl (tX0_hasColumn _ _ _ e _) rfl mf_X0_hasColumn mi_X0_hasColumn ms_X0_hasColumn kl_X0_41 (by assumption) rfl rfl (by decide) (Nat.le_of_ble_eq_true rfl) dX0_hasDot_2 (by decide) ?_
  refine aw_if_eq hX 22 dX0_hasDot_5 (by decide) (fun c_5 => ?_) (fun c_5 => ?_)
  · refine aw_iconst hX (0) dX0_hasDot_22 (by decide) ?_
    exact aw_zret hX rfl (by first | exact Or.inl rfl | exact Or.inr rfl | assumption) rfl rfl rfl dX0_hasDot_23 (by first | exact prT (by simp only [bI_eq0, Decidable.not_not, Int32.lt_iff_toInt_lt, Int32.le_iff_toInt_le, Int32.reduceToInt] at c_5 ⊢; omega) | exact prF (by simp only [bI_eq0, Decidable.not_not, Int32.lt_iff_toInt_lt, Int32.le_iff_toInt_le, Int32.reduceToInt] at c_5 ⊢; omega))
  · refine aw_iload_n hX dX0_hasDot_8 rfl ?_
    refine aw_if_lt hX 22 dX0_hasDot_9 (by decide) (fun c_9 => ?_) (fun c_9 => ?_)
    · refine aw_iconst hX (0) dX0_hasDot_22 (by decide) ?_
      exact aw_zret hX rfl (by first | exact Or.inl rfl | exact Or.inr rfl | assumption) rfl rfl rfl dX0_hasDot_23 (by first | exact prT (by simp only [bI_eq0, Decidable.not_not, Int32.lt_iff_toInt_lt, Int32.le_iff_toInt_le, Int32.reduceToInt] at c_5 c_9 ⊢; omega) | exact prF (by simp only [bI_eq0, Decidable.not_not, Int32.lt_iff_toInt_lt, Int32.le_iff_toInt_le, Int32.reduceToInt] at c_5 c_9 ⊢; omega))
    · refine aw_iload_n hX dX0_hasDot_12 rfl ?_
      refine aw_bipush hX (7) dX0_hasDot_13 (by decide) ?_
      refine aw_icmp_ge hX 22 dX0_hasDot_15 (by decide) (fun c_15 => ?_) (fun c_15 => ?_)
      · refine aw_iconst hX (0) dX0_hasDot_22 (by decide) ?_
        exact aw_zret hX rfl (by first | exact Or.inl rfl | exact Or.inr rfl | assumption) rfl rfl rfl dX0_hasDot_23 (by first | exact prT (by simp only [bI_eq0, Decidable.not_not, Int32.lt_iff_toInt_lt, Int32.le_iff_toInt_le, Int32.reduceToInt] at c_5 c_9 c_15 ⊢; omega) | exact prF (by simp only [bI_eq0, Decidable.not_not, Int32.lt_iff_toInt_lt, Int32.le_iff_toInt_le, Int32.reduceToInt] at c_5 c_9 c_15 ⊢; omega))
      · refine aw_iconst hX (1) dX0_hasDot_18 (by decide) ?_
        refine aw_goto hX 23 dX0_hasDot_19 (by decide) ?_
        exact aw_zret hX rfl (by first | exact Or.inl rfl | exact Or.inr rfl | assumption) rfl rfl rfl dX0_hasDot_23 (by first | exact prT (by simp only [bI_eq0, Decidable.not_not, Int32.lt_iff_toInt_lt, Int32.le_iff_toInt_le, Int32.reduceToInt] at c_5 c_9 c_15 ⊢; omega) | exact prF (by simp only [bI_eq0, Decidable.not_not, Int32.lt_iff_toInt_lt, Int32.le_iff_toInt_le, Int32.reduceToInt] at c_5 c_9 c_15 ⊢; omega))
end
section
/-! members of the JDK, and the copy of rows -/
theorem hset_hset (h : HP) (a : Nat) (c c' : AC) : hset (hset h a c) a c' = hset h a c' := by
  funext q
  unfold hset
  by_cases e : q = a <;> simp [e]
theorem hset_self {h : HP} {a : Nat} {c : AC} (e : h a = some c) : hset h a c = h := by
  funext q
  unfold hset
  by_cases e2 : q = a
  · rw [if_pos e2, e2, e]
  · rw [if_neg e2]
theorem hset_comm (h : HP) {a b : Nat} (c c' : AC) (e : a ≠ b) : hset (hset h a c) b c' = hset (hset h b c') a c := by
  funext q
  unfold hset
  by_cases e2 : q = a
  · subst e2; simp [e]
  · simp [e2]
theorem arrV_ext {c : ClassId} {N : Nat} {f g : Nat → Value} (e : ∀ j, j < N → f j = g j) : arrV c N f = arrV c N g := by
  unfold arrV
  congr 1
  refine Array.ext (by simp) (fun i h1 h2 => ?_)
  simp only [Array.getElem_ofFn]
  exact e i (by simpa using h1)
/-- an array's content may be told in other words, as far as it goes -/
theorem AW.ext {X : CX} {n : Nat} {h : HP} {k sl pc a N : Nat} {f : IF} (g : IF) {L : List (Option Value)} {st : List Value} (hh : h a = some (cI N f)) (e : ∀ j, j < N → f j = g j) (kk : AW X n (hset h a (cI N g)) k sl pc L st) : AW X n h k sl pc L st := by
  obtain ⟨p, l, e0, R, s, m, args, below, meth, c, Q, E, nL⟩ := X
  intro H locs ls hW hS hz hl
  refine kk H locs ls ⟨hW.1, hW.2.1, fun p0 c0 hp => ?_, fun p0 h1 h2 => ?_⟩ hS hz hl
  · by_cases e1 : p0 = a
    · subst e1
      rw [hset_eq] at hp
      cases hp
      obtain ⟨h1, h2, h3⟩ := hW.2.2.1 _ _ hh
      refine ⟨h1, h2, ?_⟩
      show H[ad E p0]? = some (vp_cell (eC E 0) (N, .inl g))
      have h4 : H[ad E p0]? = some (vp_cell (eC E 0) (N, .inl f)) := h3
      rw [h4, vp_cell_i, vp_cell_i]
      exact congrArg some (arrV_ext (fun j hj => by rw [e j hj]))
    · rw [hset_ne h _ e1] at hp
      exact hW.2.2.1 _ _ hp
  · by_cases e1 : p0 = a
    · rw [e1, hset_eq]; rfl
    · rw [hset_ne h _ e1]; exact hW.2.2.2 p0 h1 h2
def ushF (a b : Int32) : Int32 := (a.toUInt32 >>> (b.toUInt32 &&& Int32.toUInt32 31)).toInt32
def bc1 (x : Int32) : Int32 := x - (ushF x 1 &&& 1431655765)
def bc2 (x : Int32) : Int32 := (x &&& 858993459) + (ushF x 2 &&& 858993459)
def bc3 (x : Int32) : Int32 := (x + ushF x 4) &&& 252645135
def bc4 (x : Int32) : Int32 := x + ushF x 8
def bc5 (x : Int32) : Int32 := x + ushF x 16
/-- Integer.bitCount -/
def bcF (x : Int32) : Int32 := bc5 (bc4 (bc3 (bc2 (bc1 x)))) &&& 63
theorem tJ6_bitCount (l : Launch) (E : EV) (n : Nat) (h : HP) (x : Int32) : MJ6_bitCount_0f7a4 l E n h [.int x] (PR (.int (bcF x)) h) := by
  refine AM.intro mf_J6_bitCount_0f7a4 (by simp [Value.category]) (Nat.le_of_ble_eq_true rfl) (fun X hl hE hnm hX => ?_)
  subst hl
  subst hE
  show AW X _ _ 0 0 0 [some (.int x)] []
  refine aw_iload_n hX dJ6_bitCount_0f7a4_0 rfl ?_
  refine aw_iload_n hX dJ6_bitCount_0f7a4_1 rfl ?_
  refine aw_iconst hX (1) dJ6_bitCount_0f7a4_2 (by decide) ?_
  refine aw_iushr hX dJ6_bitCount_0f7a4_3 ?_
  refine aw_ldcw hX kk_J6_265 dJ6_bitCount_0f7a4_4 ?_
  refine aw_iand hX dJ6_bitCount_0f7a4_7 ?_
  refine aw_isub hX dJ6_bitCount_0f7a4_8 ?_
  refine aw_istore_n hX dJ6_bitCount_0f7a4_9 (Nat.le_of_ble_eq_true rfl) ?_
  show AW X _ _ 0 0 10 [some (.int (bc1 x))] []
  refine aw_iload_n hX dJ6_bitCount_0f7a4_10 rfl ?_
  refine aw_ldcw hX kk_J6_266 dJ6_bitCount_0f7a4_11 ?_
  refine aw_iand hX dJ6_bitCount_0f7a4_14 ?_
  refine aw_iload_n hX dJ6_bitCount_0f7a4_15 rfl ?_
  refine aw_iconst hX (2) dJ6_bitCount_0f7a4_16 (by decide) ?_
  refine aw_iushr hX dJ6_bitCount_0f7a4_17 ?_
  refine aw_ldcw hX kk_J6_266 dJ6_bitCount_0f7a4_18 ?_
  refine aw_iand hX dJ6_bitCount_0f7a4_21 ?_
  refine aw_iadd hX dJ6_bitCount_0f7a4_22 ?_
  refine aw_istore_n hX dJ6_bitCount_0f7a4_23 (Nat.le_of_ble_eq_true rfl) ?_
  show AW X _ _ 0 0 24 [some (.int (bc2 (bc1 x)))] []
  refine aw_iload_n hX dJ6_bitCount_0f7a4_24 rfl ?_
  refine aw_iload_n hX dJ6_bitCount_0f7a4_25 rfl ?_
  refine aw_iconst hX (4) dJ6_bitCount_0f7a4_26 (by decide) ?_
  refine aw_iushr hX dJ6_bitCount_0f7a4_27 ?_
  refine aw_iadd hX dJ6_bitCount_0f7a4_28 ?_
  refine aw_ldcw hX kk_J6_267 dJ6_bitCount_0f7a4_29 ?_
  refine aw_iand hX dJ6_bitCount_0f7a4_32 ?_
  refine aw_istore_n hX dJ6_bitCount_0f7a4_33 (Nat.le_of_ble_eq_true rfl) ?_
  show AW X _ _ 0 0 34 [some (.int (bc3 (bc2 (bc1 x))))] []
  refine aw_iload_n hX dJ6_bitCount_0f7a4_34 rfl ?_
  refine aw_iload_n hX dJ6_bitCount_0f7a4_35 rfl ?_
  refine aw_bipush hX (8) dJ6_bitCount_0f7a4_36 (by decide) ?_
  refine aw_iushr hX dJ6_bitCount_0f7a4_38 ?_
  refine aw_iadd hX dJ6_bitCount_0f7a4_39 ?_
  refine aw_istore_n hX dJ6_bitCount_0f7a4_40 (Nat.le_of_ble_eq_true rfl) ?_
  show AW X _ _ 0 0 41 [some (.int (bc4 (bc3 (bc2 (bc1 x)))))] []
  refine aw_iload_n hX dJ6_bitCount_0f7a4_41 rfl ?_
  refine aw_iload_n hX dJ6_bitCount_0f7a4_42 rfl ?_
  refine aw_bipush hX (16) dJ6_bitCount_0f7a4_43 (by decide) ?_
  refine aw_iushr hX dJ6_bitCount_0f7a4_45 ?_
  refine aw_iadd hX dJ6_bitCount_0f7a4_46 ?_
  refine aw_istore_n hX dJ6_bitCount_0f7a4_47 (Nat.le_of_ble_eq_true rfl) ?_
  show AW X _ _ 0 0 48 [some (.int (bc5 (bc4 (bc3 (bc2 (bc1 x))))))] []
  refine aw_iload_n hX dJ6_bitCount_0f7a4_48 rfl ?_
  refine aw_bipush hX (63) dJ6_bitCount_0f7a4_49 (by decide) ?_
  refine aw_iand hX dJ6_bitCount_0f7a4_51 ?_
  exact aw_iret hX rfl rfl rfl rfl dJ6_bitCount_0f7a4_52 (by exact ⟨rfl, rfl⟩)
theorem tJ9_max (l : Launch) (E : EV) (n : Nat) (h : HP) (x y : Int32) : MJ9_max_7cf53 l E n h [.int x, .int y] (PR (.int (if x < y then y else x)) h) := by
  refine AM.intro mf_J9_max_7cf53 (by simp [Value.category]) (Nat.le_of_ble_eq_true rfl) (fun X hl hE hnm hX => ?_)
  subst hl
  subst hE
  show AW X _ _ 0 0 0 [some (.int x), some (.int y)] []
  refine aw_iload_n hX dJ9_max_7cf53_0 rfl ?_
  refine aw_iload_n hX dJ9_max_7cf53_1 rfl ?_
  refine aw_icmp_lt hX 9 dJ9_max_7cf53_2 (by decide) (fun c_2 => ?_) (fun c_2 => ?_)
  · refine aw_iload_n hX dJ9_max_7cf53_9 rfl ?_
    exact aw_iret hX rfl rfl rfl rfl dJ9_max_7cf53_10 (by exact ⟨by simp [c_2], rfl⟩)
  · refine aw_iload_n hX dJ9_max_7cf53_5 rfl ?_
    refine aw_goto hX 10 dJ9_max_7cf53_6 (by decide) ?_
    exact aw_iret hX rfl rfl rfl rfl dJ9_max_7cf53_10 (by exact ⟨by simp [c_2], rfl⟩)
theorem tJ9_min (l : Launch) (E : EV) (n : Nat) (h : HP) (x y : Int32) : MJ9_min_7cf53 l E n h [.int x, .int y] (PR (.int (if y < x then y else x)) h) := by
  refine AM.intro mf_J9_min_7cf53 (by simp [Value.category]) (Nat.le_of_ble_eq_true rfl) (fun X hl hE hnm hX => ?_)
  subst hl
  subst hE
  show AW X _ _ 0 0 0 [some (.int x), some (.int y)] []
  refine aw_iload_n hX dJ9_min_7cf53_0 rfl ?_
  refine aw_iload_n hX dJ9_min_7cf53_1 rfl ?_
  refine aw_icmp_gt hX 9 dJ9_min_7cf53_2 (by decide) (fun c_2 => ?_) (fun c_2 => ?_)
  · refine aw_iload_n hX dJ9_min_7cf53_9 rfl ?_
    exact aw_iret hX rfl rfl rfl rfl dJ9_min_7cf53_10 (by exact ⟨by simp [c_2], rfl⟩)
  · refine aw_iload_n hX dJ9_min_7cf53_5 rfl ?_
    refine aw_goto hX 10 dJ9_min_7cf53_6 (by decide) ?_
    exact aw_iret hX rfl rfl rfl rfl dJ9_min_7cf53_10 (by exact ⟨by simp [c_2], rfl⟩)
theorem xor_pos {a b : Nat} (ha : a < 2 ^ 31) (hb : b < 2 ^ 31) : 0 ≤ nI a ^^^ nI b := by
  have e : nI a ^^^ nI b = nI (a ^^^ b) := by
    apply Int32.toBitVec_inj.mp
    rw [Int32.toBitVec_xor]
    show BitVec.ofNat 32 a ^^^ BitVec.ofNat 32 b = BitVec.ofNat 32 (a ^^^ b)
    apply BitVec.eq_of_toNat_eq
    simp [BitVec.toNat_xor, BitVec.toNat_ofNat]
  rw [e]
  exact nI_pos' (Nat.xor_lt_two_pow ha hb)
theorem tJ9_floorMod (l : Launch) (E : EV) (n : Nat) (h : HP) {a b : Nat} (ha : a < 2 ^ 31) (hb : b < 2 ^ 31) (h0 : 0 < b) : MJ9_floorMod_7cf53 l E n h [.int (nI a), .int (nI b)] (PR (.int (nI (a % b))) h) := by
  refine AM.intro mf_J9_floorMod_7cf53 (by simp [Value.category]) (Nat.le_of_ble_eq_true rfl) (fun X hl hE hnm hX => ?_)
  subst hl
  subst hE
  show AW X _ _ 0 0 0 [some (.int (nI a)), some (.int (nI b)), none] []
  refine aw_iload_n hX dJ9_floorMod_7cf53_0 rfl ?_
  refine aw_iload_n hX dJ9_floorMod_7cf53_1 rfl ?_
  refine aw_irem hX dJ9_floorMod_7cf53_2 (nI_ne0 h0 hb) ?_
  rw [pk_rem ha h0 hb]
  refine aw_istore_n hX dJ9_floorMod_7cf53_3 (Nat.le_of_ble_eq_true rfl) ?_
  refine aw_iload_n hX dJ9_floorMod_7cf53_4 rfl ?_
  refine aw_iload_n hX dJ9_floorMod_7cf53_5 rfl ?_
  refine aw_ixor hX dJ9_floorMod_7cf53_6 ?_
  refine aw_if_ge hX 18 dJ9_floorMod_7cf53_7 (by decide) (fun c_7 => ?_) (fun c_7 => ?_)
  · refine aw_iload_n hX dJ9_floorMod_7cf53_18 rfl ?_
    exact aw_iret hX rfl rfl rfl rfl dJ9_floorMod_7cf53_19 (by exact ⟨rfl, rfl⟩)
  · exact absurd (xor_pos ha hb) c_7
theorem upd_lo {g : IF} {j : Nat} {x : Int32} (h : ∀ i, i < j → g i = x) : ∀ i, i < j + 1 → upd g j x i = x := fun i hi => by
  by_cases e : i = j
  · subst e
    exact pk_us
  · rw [pk_un e]
    exact h i (by omega)
/-- Arrays.fill -/
theorem tJ7_fill (l : Launch) (E : EV) (n : Nat) {h : HP} {a N : Nat} {f : IF} (hh : h a = some (cI N f)) (hN : N < 2 ^ 31) (x : Int32) : MJ7_fill_53178 l E n h [.ref a, .int x] (fun v h' => v = none ∧ h' = hset h a (cI N (fun _ => x))) := by
  refine AM.intro mf_J7_fill_53178 (by simp [Value.category]) (Nat.le_of_ble_eq_true rfl) (fun X hl hE hnm hX => ?_)
  subst hl
  subst hE
  show AW X _ _ 0 0 0 [some (.ref a), some (.int x), none, none] []
  have loop : ∀ (m j : Nat) (g : IF), j ≤ N → N - j < m → (∀ i, i < j → g i = x) → AW X n (hset h a (cI N g)) 0 0 5 [some (.ref a), some (.int x), some (.int (nI j)), some (.int (nI N))] [] := by
    intro m
    induction m with
    | zero => intro j g h1 h2; omega
    | succ m ih =>
      intro j g h1 h2 h3
      have e0 := hset_eq h a (cI N g)
      refine aw_iload_n hX dJ7_fill_53178_5 rfl ?_
      refine aw_iload_n hX dJ7_fill_53178_6 rfl ?_
      refine aw_icmp_ge hX 20 dJ7_fill_53178_7 (by decide) (fun c_7 => ?_) (fun c_7 => ?_)
      · have hj : j = N := by exact Nat.le_antisymm h1 (Nat.not_lt.mp (fun q => nI_ge q hN c_7))
        subst hj
        refine AW.ext (fun _ => x) e0 (fun i hi => h3 i hi) ?_
        rw [hset_hset]
        exact aw_vret hX rfl rfl rfl rfl dJ7_fill_53178_20 ⟨rfl, rfl⟩
      · have hj : j < N := by exact Nat.lt_of_le_of_ne h1 (fun q => c_7 (by rw [q]; exact nI_le (Nat.le_refl _) hN))
        refine aw_aload_n hX dJ7_fill_53178_10 rfl ?_
        refine aw_iload_n hX dJ7_fill_53178_11 rfl ?_
        refine aw_iload_n hX dJ7_fill_53178_12 rfl ?_
        refine aw_iastN hX j e0 rfl hj hN dJ7_fill_53178_13 ?_
        refine aw_iinc hX (nI (j + 1)) dJ7_fill_53178_14 rfl (nI_1 j) ?_
        refine aw_goto hX 5 dJ7_fill_53178_17 (by decide) ?_
        rw [hset_hset]
        exact ih (j + 1) (upd g j x) hj (by omega) (upd_lo h3)
  refine aw_iconst hX (0) dJ7_fill_53178_0 (by decide) ?_
  refine aw_istore_n hX dJ7_fill_53178_1 (Nat.le_of_ble_eq_true rfl) ?_
  refine aw_aload_n hX dJ7_fill_53178_2 rfl ?_
  refine aw_alen hX _ (by assumption) (by decide) rfl dJ7_fill_53178_3 ?_
  refine aw_istore_n hX dJ7_fill_53178_4 (Nat.le_of_ble_eq_true rfl) ?_
  rw [← hset_self hh]
  exact loop (N + 1) 0 f (Nat.zero_le _) (by omega) (fun i hi => absurd hi (by omega))
theorem tX9_copy (l : Launch) (E : EV) (n : Nat) {h : HP} {a b N : Nat} {f g : IF} (hh : h a = some (cI N f)) (hh2 : h b = some (cI N g)) (hN : N < 2 ^ 31) : MX9_copy l E n h [.ref a, .ref b] (fun v h' => v = none ∧ h' = hset h b (cI N f)) := by
  refine AM.intro mf_X9_copy (by simp [Value.category]) (Nat.le_of_ble_eq_true rfl) (fun X hl hE hnm hX => ?_)
  subst hl
  subst hE
  show AW X _ _ 0 0 0 [some (.ref a), some (.ref b)] []
  refine aw_aload_n hX dX9_copy_0 rfl ?_
  refine aw_iconst hX (0) dX9_copy_1 (by decide) ?_
  refine aw_aload_n hX dX9_copy_2 rfl ?_
  refine aw_iconst hX (0) dX9_copy_3 (by decide) ?_
  refine aw_aload_n hX dX9_copy_4 rfl ?_
  refine aw_alen hX _ (by assumption) (by decide) rfl dX9_copy_5 ?_
  refine aw_aload_n hX dX9_copy_6 rfl ?_
  refine aw_alen hX _ (by assumption) (by decide) rfl dX9_copy_7 ?_
  refine aw_callSp hX RX9 rfl (tJ9_min _ _ _ _ (nI N) (nI N)) rfl mf_J9_min_7cf53 mt_J9_min_7cf53 kl_X9_277 rfl (by decide) (Nat.le_of_ble_eq_true rfl) dX9_copy_8 (by decide) ?_
  rw [if_neg (nI_nlt (Nat.le_refl N) hN)]
  refine aw_acopy hX RX9 rfl kl_X9_282 m_cpy.1 m_cpy.2.1 m_cpy.2.2 (by assumption) (by assumption) (by decide) (by decide) (nI_pos hN) (by rw [nI_clamp hN]; exact Nat.le_of_eq (Nat.zero_add N)) (by rw [nI_clamp hN]; exact Nat.le_of_eq (Nat.zero_add N)) (by decide) (Nat.le_of_ble_eq_true rfl) dX9_copy_11 ?_
  rw [nI_clamp hN]
  refine AW.ext f (hset_eq h b _) (fun j hj => ?_) ?_
  · exact (pk_cpy_in (Nat.zero_le _) (by omega)).trans (by simp)
  rw [hset_hset]
  exact aw_vret hX rfl rfl rfl rfl dX9_copy_14 (by exact ⟨rfl, rfl⟩)
end
section
/-! Dots -/
theorem lp_out {N j : Nat} (h1 : j ≤ N) (hN : N < 2 ^ 31) (c : nI N ≤ nI j) : j = N := Nat.le_antisymm h1 (Nat.not_lt.mp (fun q => nI_ge q hN c))
theorem lp_in {N j : Nat} (h1 : j ≤ N) (hN : N < 2 ^ 31) (c : ¬ nI N ≤ nI j) : j < N := Nat.lt_of_le_of_ne h1 (fun q => c (by rw [q]; exact nI_le (Nat.le_refl _) hN))
theorem idx7 (j i : Nat) : nI j * 7 + nI i = nI (j * 7 + i) := by
  rw [show (7 : Int32) = nI 7 from rfl, pk_mul, nI_add]
/-- the bit of a row -/
def mk (i : Nat) : Int32 := (1 : Int32) <<< (nI i &&& 31)
section DOTS
variable {h : HP} {d : Nat} {w : Int32} {sh ai st kn fl : IF}
theorem HDots.a0 (H : HDots h d w sh ai st kn fl) (w' : Int32) : HDots (hset h d (cO 0 [.int w', .ref (d + 1), .ref (d + 2), .ref (d + 3), .ref (d + 4), .ref (d + 5)])) d w' sh ai st kn fl :=
  ⟨hset_eq _ _ _, (hset_ne _ _ (by omega)).trans H.2.1, (hset_ne _ _ (by omega)).trans H.2.2.1, (hset_ne _ _ (by omega)).trans H.2.2.2.1, (hset_ne _ _ (by omega)).trans H.2.2.2.2.1, (hset_ne _ _ (by omega)).trans H.2.2.2.2.2⟩
theorem HDots.a1 (H : HDots h d w sh ai st kn fl) (f : IF) : HDots (hset h (d + 1) (cI 40 f)) d w f ai st kn fl :=
  ⟨(hset_ne _ _ (by omega)).trans H.1, hset_eq _ _ _, (hset_ne _ _ (by omega)).trans H.2.2.1, (hset_ne _ _ (by omega)).trans H.2.2.2.1, (hset_ne _ _ (by omega)).trans H.2.2.2.2.1, (hset_ne _ _ (by omega)).trans H.2.2.2.2.2⟩
theorem HDots.a2 (H : HDots h d w sh ai st kn fl) (f : IF) : HDots (hset h (d + 2) (cI 40 f)) d w sh f st kn fl :=
  ⟨(hset_ne _ _ (by omega)).trans H.1, (hset_ne _ _ (by omega)).trans H.2.1, hset_eq _ _ _, (hset_ne _ _ (by omega)).trans H.2.2.2.1, (hset_ne _ _ (by omega)).trans H.2.2.2.2.1, (hset_ne _ _ (by omega)).trans H.2.2.2.2.2⟩
theorem HDots.a3 (H : HDots h d w sh ai st kn fl) (f : IF) : HDots (hset h (d + 3) (cI 40 f)) d w sh ai f kn fl :=
  ⟨(hset_ne _ _ (by omega)).trans H.1, (hset_ne _ _ (by omega)).trans H.2.1, (hset_ne _ _ (by omega)).trans H.2.2.1, hset_eq _ _ _, (hset_ne _ _ (by omega)).trans H.2.2.2.2.1, (hset_ne _ _ (by omega)).trans H.2.2.2.2.2⟩
theorem HDots.a4 (H : HDots h d w sh ai st kn fl) (f : IF) : HDots (hset h (d + 4) (cI 40 f)) d w sh ai st f fl :=
  ⟨(hset_ne _ _ (by omega)).trans H.1, (hset_ne _ _ (by omega)).trans H.2.1, (hset_ne _ _ (by omega)).trans H.2.2.1, (hset_ne _ _ (by omega)).trans H.2.2.2.1, hset_eq _ _ _, (hset_ne _ _ (by omega)).trans H.2.2.2.2.2⟩
theorem HDots.a5 (H : HDots h d w sh ai st kn fl) (f : IF) : HDots (hset h (d + 5) (cI 280 f)) d w sh ai st kn f :=
  ⟨(hset_ne _ _ (by omega)).trans H.1, (hset_ne _ _ (by omega)).trans H.2.1, (hset_ne _ _ (by omega)).trans H.2.2.1, (hset_ne _ _ (by omega)).trans H.2.2.2.1, (hset_ne _ _ (by omega)).trans H.2.2.2.2.1, hset_eq _ _ _⟩
theorem HDots.off (H : HDots h d w sh ai st kn fl) {a : Nat} (c : AC) (ha : a < d ∨ d + 6 ≤ a) : HDots (hset h a c) d w sh ai st kn fl :=
  H.sm (lo := a) (hi := a + 1) (Sm.rf.set (Nat.le_refl _) (Nat.lt_succ_self _)) (by omega)
theorem tX0_copyFrom (l : Launch) (E : EV) (n : Nat) {d' : Nat} {w' : Int32} {sh' ai' st' kn' fl' : IF} (H : HDots h d w sh ai st kn fl) (H' : HDots h d' w' sh' ai' st' kn' fl') (hd : d + 6 ≤ d' ∨ d' + 6 ≤ d) : MX0_copyFrom l E n h [.ref d, .ref d'] (fun v h' => v = none ∧ HDots h' d w' sh' ai' st' kn' fl' ∧ Sm d (d + 6) h h') := by
  have e := H
  have g := H'
  obtain ⟨e0, e1, e2, e3, e4, e5⟩ := H
  obtain ⟨g0, g1, g2, g3, g4, g5⟩ := H'
  refine AM.intro mf_X0_copyFrom (by simp [Value.category]) (Nat.le_of_ble_eq_true rfl) (fun X hl hE hnm hX => ?_)
  subst hl
  subst hE
  show AW X _ _ 0 0 0 [some (.ref d), some (.ref d')] []
  refine aw_aload_n hX dX0_copyFrom_0 rfl ?_
  refine aw_aload_n hX dX0_copyFrom_1 rfl ?_
  refine gt_X0_9 hX dX0_copyFrom_2 (by assumption) (by exact rfl) ?_
  refine pt_X0_9 hX dX0_copyFrom_5 (by assumption) (Nat.le_of_ble_eq_true rfl) ?_
  dsimp only [List.set_cons_zero, List.set_cons_succ]
  have e := e.a0 w'
  have g := g.off (a := d) (cO 0 [.int w', .ref (d + 1), .ref (d + 2), .ref (d + 3), .ref (d + 4), .ref (d + 5)]) (by omega)
  obtain ⟨e0, e1, e2, e3, e4, e5⟩ := id e
  obtain ⟨g0, g1, g2, g3, g4, g5⟩ := id g
  refine aw_aload_n hX dX0_copyFrom_8 rfl ?_
  refine gt_X0_15 hX dX0_copyFrom_9 (by assumption) (by exact rfl) ?_
  refine aw_aload_n hX dX0_copyFrom_12 rfl ?_
  refine gt_X0_15 hX dX0_copyFrom_13 (by assumption) (by exact rfl) ?_
  refine aw_callSN0 hX RX0 "FlipBoard" rfl (tX9_copy _ _ _ g1 e1 (by decide)) rfl mf_X9_copy mt_X9_copy kl_X0_31 rfl (by decide) (Nat.le_of_ble_eq_true rfl) dX0_copyFrom_16 (by decide) (fun v_16 h_16 p_16 => ?_)
  obtain ⟨rfl, rfl⟩ := p_16
  have e := e.a1 sh'
  have g := g.off (a := d + 1) (cI 40 sh') (by omega)
  obtain ⟨e0, e1, e2, e3, e4, e5⟩ := id e
  obtain ⟨g0, g1, g2, g3, g4, g5⟩ := id g
  refine aw_aload_n hX dX0_copyFrom_19 rfl ?_
  refine gt_X0_19 hX dX0_copyFrom_20 (by assumption) (by exact rfl) ?_
  refine aw_aload_n hX dX0_copyFrom_23 rfl ?_
  refine gt_X0_19 hX dX0_copyFrom_24 (by assumption) (by exact rfl) ?_
  refine aw_callSN0 hX RX0 "FlipBoard" rfl (tX9_copy _ _ _ g2 e2 (by decide)) rfl mf_X9_copy mt_X9_copy kl_X0_31 rfl (by decide) (Nat.le_of_ble_eq_true rfl) dX0_copyFrom_27 (by decide) (fun v_27 h_27 p_27 => ?_)
  obtain ⟨rfl, rfl⟩ := p_27
  have e := e.a2 ai'
  have g := g.off (a := d + 2) (cI 40 ai') (by omega)
  obtain ⟨e0, e1, e2, e3, e4, e5⟩ := id e
  obtain ⟨g0, g1, g2, g3, g4, g5⟩ := id g
  refine aw_aload_n hX dX0_copyFrom_30 rfl ?_
  refine gt_X0_22 hX dX0_copyFrom_31 (by assumption) (by exact rfl) ?_
  refine aw_aload_n hX dX0_copyFrom_34 rfl ?_
  refine gt_X0_22 hX dX0_copyFrom_35 (by assumption) (by exact rfl) ?_
  refine aw_callSN0 hX RX0 "FlipBoard" rfl (tX9_copy _ _ _ g3 e3 (by decide)) rfl mf_X9_copy mt_X9_copy kl_X0_31 rfl (by decide) (Nat.le_of_ble_eq_true rfl) dX0_copyFrom_38 (by decide) (fun v_38 h_38 p_38 => ?_)
  obtain ⟨rfl, rfl⟩ := p_38
  have e := e.a3 st'
  have g := g.off (a := d + 3) (cI 40 st') (by omega)
  obtain ⟨e0, e1, e2, e3, e4, e5⟩ := id e
  obtain ⟨g0, g1, g2, g3, g4, g5⟩ := id g
  refine aw_aload_n hX dX0_copyFrom_41 rfl ?_
  refine gt_X0_25 hX dX0_copyFrom_42 (by assumption) (by exact rfl) ?_
  refine aw_aload_n hX dX0_copyFrom_45 rfl ?_
  refine gt_X0_25 hX dX0_copyFrom_46 (by assumption) (by exact rfl) ?_
  refine aw_callSN0 hX RX0 "FlipBoard" rfl (tX9_copy _ _ _ g4 e4 (by decide)) rfl mf_X9_copy mt_X9_copy kl_X0_31 rfl (by decide) (Nat.le_of_ble_eq_true rfl) dX0_copyFrom_49 (by decide) (fun v_49 h_49 p_49 => ?_)
  obtain ⟨rfl, rfl⟩ := p_49
  have e := e.a4 kn'
  have g := g.off (a := d + 4) (cI 40 kn') (by omega)
  obtain ⟨e0, e1, e2, e3, e4, e5⟩ := id e
  obtain ⟨g0, g1, g2, g3, g4, g5⟩ := id g
  refine aw_aload_n hX dX0_copyFrom_52 rfl ?_
  refine gt_X0_28 hX dX0_copyFrom_53 (by assumption) (by exact rfl) ?_
  refine aw_aload_n hX dX0_copyFrom_56 rfl ?_
  refine gt_X0_28 hX dX0_copyFrom_57 (by assumption) (by exact rfl) ?_
  refine aw_callSN0 hX RX0 "FlipBoard" rfl (tX9_copy _ _ _ g5 e5 (by decide)) rfl mf_X9_copy mt_X9_copy kl_X0_31 rfl (by decide) (Nat.le_of_ble_eq_true rfl) dX0_copyFrom_60 (by decide) (fun v_60 h_60 p_60 => ?_)
  obtain ⟨rfl, rfl⟩ := p_60
  have e := e.a5 fl'
  exact aw_vret hX rfl rfl rfl rfl dX0_copyFrom_63 (by exact ⟨rfl, e, by repeat first | exact Sm.rf | refine Sm.set ?_ (by omega) (by omega)⟩)
theorem tX0_renew (l : Launch) (E : EV) (n : Nat) (H : HDots h d w sh ai st kn fl) (w' : Int32) : MX0_renew l E n h [.ref d, .int w'] (fun v h' => v = none ∧ HDots h' d w' (fun _ => 0) (fun _ => 0) (fun _ => 0) (fun _ => 0) (fun _ => 0) ∧ Sm d (d + 6) h h') := by
  have e := H
  obtain ⟨e0, e1, e2, e3, e4, e5⟩ := H
  refine AM.intro mf_X0_renew (by simp [Value.category]) (Nat.le_of_ble_eq_true rfl) (fun X hl hE hnm hX => ?_)
  subst hl
  subst hE
  show AW X _ _ 0 0 0 [some (.ref d), some (.int w')] []
  refine aw_aload_n hX dX0_renew_0 rfl ?_
  refine aw_iload_n hX dX0_renew_1 rfl ?_
  refine pt_X0_9 hX dX0_renew_2 (by assumption) (Nat.le_of_ble_eq_true rfl) ?_
  dsimp only [List.set_cons_zero, List.set_cons_succ]
  have e := e.a0 w'
  obtain ⟨e0, e1, e2, e3, e4, e5⟩ := id e
  refine aw_aload_n hX dX0_renew_5 rfl ?_
  refine gt_X0_15 hX dX0_renew_6 (by assumption) (by exact rfl) ?_
  refine aw_iconst hX (0) dX0_renew_9 (by decide) ?_
  refine aw_callS0 hX RX0 rfl (tJ7_fill _ _ _ e1 (by decide) 0) rfl mf_J7_fill_53178 mt_J7_fill_53178 kl_X0_35 rfl (by decide) (Nat.le_of_ble_eq_true rfl) dX0_renew_10 (by decide) (fun v_10 h_10 p_10 => ?_)
  obtain ⟨rfl, rfl⟩ := p_10
  have e := e.a1 (fun _ => 0)
  obtain ⟨e0, e1, e2, e3, e4, e5⟩ := id e
  refine aw_aload_n hX dX0_renew_13 rfl ?_
  refine gt_X0_19 hX dX0_renew_14 (by assumption) (by exact rfl) ?_
  refine aw_iconst hX (0) dX0_renew_17 (by decide) ?_
  refine aw_callS0 hX RX0 rfl (tJ7_fill _ _ _ e2 (by decide) 0) rfl mf_J7_fill_53178 mt_J7_fill_53178 kl_X0_35 rfl (by decide) (Nat.le_of_ble_eq_true rfl) dX0_renew_18 (by decide) (fun v_18 h_18 p_18 => ?_)
  obtain ⟨rfl, rfl⟩ := p_18
  have e := e.a2 (fun _ => 0)
  obtain ⟨e0, e1, e2, e3, e4, e5⟩ := id e
  refine aw_aload_n hX dX0_renew_21 rfl ?_
  refine gt_X0_22 hX dX0_renew_22 (by assumption) (by exact rfl) ?_
  refine aw_iconst hX (0) dX0_renew_25 (by decide) ?_
  refine aw_callS0 hX RX0 rfl (tJ7_fill _ _ _ e3 (by decide) 0) rfl mf_J7_fill_53178 mt_J7_fill_53178 kl_X0_35 rfl (by decide) (Nat.le_of_ble_eq_true rfl) dX0_renew_26 (by decide) (fun v_26 h_26 p_26 => ?_)
  obtain ⟨rfl, rfl⟩ := p_26
  have e := e.a3 (fun _ => 0)
  obtain ⟨e0, e1, e2, e3, e4, e5⟩ := id e
  refine aw_aload_n hX dX0_renew_29 rfl ?_
  refine gt_X0_25 hX dX0_renew_30 (by assumption) (by exact rfl) ?_
  refine aw_iconst hX (0) dX0_renew_33 (by decide) ?_
  refine aw_callS0 hX RX0 rfl (tJ7_fill _ _ _ e4 (by decide) 0) rfl mf_J7_fill_53178 mt_J7_fill_53178 kl_X0_35 rfl (by decide) (Nat.le_of_ble_eq_true rfl) dX0_renew_34 (by decide) (fun v_34 h_34 p_34 => ?_)
  obtain ⟨rfl, rfl⟩ := p_34
  have e := e.a4 (fun _ => 0)
  obtain ⟨e0, e1, e2, e3, e4, e5⟩ := id e
  refine aw_aload_n hX dX0_renew_37 rfl ?_
  refine gt_X0_28 hX dX0_renew_38 (by assumption) (by exact rfl) ?_
  refine aw_iconst hX (0) dX0_renew_41 (by decide) ?_
  refine aw_callS0 hX RX0 rfl (tJ7_fill _ _ _ e5 (by decide) 0) rfl mf_J7_fill_53178 mt_J7_fill_53178 kl_X0_35 rfl (by decide) (Nat.le_of_ble_eq_true rfl) dX0_renew_42 (by decide) (fun v_42 h_42 p_42 => ?_)
  obtain ⟨rfl, rfl⟩ := p_42
  have e := e.a5 (fun _ => 0)
  exact aw_vret hX rfl rfl rfl rfl dX0_renew_45 (by exact ⟨rfl, e, by repeat first | exact Sm.rf | refine Sm.set ?_ (by omega) (by omega)⟩)
theorem tX0_aimAt (l : Launch) (E : EV) (n : Nat) (H : HDots h d w sh ai st kn fl) {a : Nat} {f : IF} (hh : h a = some (cI 40 f)) : MX0_aimAt l E n h [.ref d, .ref a] (fun v h' => v = none ∧ HDots h' d w sh f st kn fl ∧ Sm d (d + 6) h h') := by
  have e := H
  obtain ⟨e0, e1, e2, e3, e4, e5⟩ := H
  refine AM.intro mf_X0_aimAt (by simp [Value.category]) (Nat.le_of_ble_eq_true rfl) (fun X hl hE hnm hX => ?_)
  subst hl
  subst hE
  show AW X _ _ 0 0 0 [some (.ref d), some (.ref a)] []
  refine aw_aload_n hX dX0_aimAt_0 rfl ?_
  refine aw_aload_n hX dX0_aimAt_1 rfl ?_
  refine gt_X0_19 hX dX0_aimAt_2 (by assumption) (by exact rfl) ?_
  refine aw_callSN0 hX RX0 "FlipBoard" rfl (tX9_copy _ _ _ hh e2 (by decide)) rfl mf_X9_copy mt_X9_copy kl_X0_31 rfl (by decide) (Nat.le_of_ble_eq_true rfl) dX0_aimAt_5 (by decide) (fun v_5 h_5 p_5 => ?_)
  obtain ⟨rfl, rfl⟩ := p_5
  have e := e.a2 f
  exact aw_vret hX rfl rfl rfl rfl dX0_aimAt_8 (by exact ⟨rfl, e, by repeat first | exact Sm.rf | refine Sm.set ?_ (by omega) (by omega)⟩)
theorem tX0_aimAtDark (l : Launch) (E : EV) (n : Nat) (H : HDots h d w sh ai st kn fl) : MX0_aimAtDark l E n h [.ref d] (fun v h' => v = none ∧ HDots h' d w sh (fun _ => 0) st kn fl ∧ Sm d (d + 6) h h') := by
  have e := H
  obtain ⟨e0, e1, e2, e3, e4, e5⟩ := H
  refine AM.intro mf_X0_aimAtDark (by simp [Value.category]) (Nat.le_of_ble_eq_true rfl) (fun X hl hE hnm hX => ?_)
  subst hl
  subst hE
  show AW X _ _ 0 0 0 [some (.ref d)] []
  refine aw_aload_n hX dX0_aimAtDark_0 rfl ?_
  refine gt_X0_19 hX dX0_aimAtDark_1 (by assumption) (by exact rfl) ?_
  refine aw_iconst hX (0) dX0_aimAtDark_4 (by decide) ?_
  refine aw_callS0 hX RX0 rfl (tJ7_fill _ _ _ e2 (by decide) 0) rfl mf_J7_fill_53178 mt_J7_fill_53178 kl_X0_35 rfl (by decide) (Nat.le_of_ble_eq_true rfl) dX0_aimAtDark_5 (by decide) (fun v_5 h_5 p_5 => ?_)
  obtain ⟨rfl, rfl⟩ := p_5
  have e := e.a2 (fun _ => 0)
  exact aw_vret hX rfl rfl rfl rfl dX0_aimAtDark_8 (by exact ⟨rfl, e, by repeat first | exact Sm.rf | refine Sm.set ?_ (by omega) (by omega)⟩)
theorem tX0_dueBits (l : Launch) (E : EV) (n : Nat) (H : HDots h d w sh ai st kn fl) {j : Nat} (hj : j < 40) : MX0_dueBits l E n h [.ref d, .int (nI j)] (PR (.int (if nI j < w then (ai j ^^^ sh j) &&& (kn j ^^^ (-1)) else 0)) h) := by
  have e := H
  obtain ⟨e0, e1, e2, e3, e4, e5⟩ := H
  by_cases hw : nI j < w
  · rw [if_pos hw]
    refine AM.intro mf_X0_dueBits (by simp [Value.category]) (Nat.le_of_ble_eq_true rfl) (fun X hl hE hnm hX => ?_)
    subst hl
    subst hE
    show AW X _ _ 0 0 0 [some (.ref d), some (.int (nI j))] []
    refine aw_aload_n hX dX0_dueBits_0 rfl ?_
    refine aw_iload_n hX dX0_dueBits_1 rfl ?_
    refine aw_callVp hX RX0 rfl (tX0_hasColumn _ _ _ e _) rfl mf_X0_hasColumn mi_X0_hasColumn ms_X0_hasColumn kl_X0_41 (by assumption) rfl rfl (by decide) (Nat.le_of_ble_eq_true rfl) dX0_dueBits_2 (by decide) ?_
    rw [bI_t ⟨nI_pos' (by omega), hw, nI_lt hj (by decide)⟩]
    refine aw_if_eq hX 33 dX0_dueBits_5 (by decide) (fun c_5 => ?_) (fun c_5 => ?_)
    · exact absurd c_5 (by decide)
    · refine aw_aload_n hX dX0_dueBits_8 rfl ?_
      refine gt_X0_19 hX dX0_dueBits_9 (by assumption) (by exact rfl) ?_
      refine aw_iload_n hX dX0_dueBits_12 rfl ?_
      refine aw_ialdN hX (j) (by assumption) rfl hj (by first | decide | assumption) dX0_dueBits_13 ?_
      refine aw_aload_n hX dX0_dueBits_14 rfl ?_
      refine gt_X0_15 hX dX0_dueBits_15 (by assumption) (by exact rfl) ?_
      refine aw_iload_n hX dX0_dueBits_18 rfl ?_
      refine aw_ialdN hX (j) (by assumption) rfl hj (by first | decide | assumption) dX0_dueBits_19 ?_
      refine aw_ixor hX dX0_dueBits_20 ?_
      refine aw_aload_n hX dX0_dueBits_21 rfl ?_
      refine gt_X0_25 hX dX0_dueBits_22 (by assumption) (by exact rfl) ?_
      refine aw_iload_n hX dX0_dueBits_25 rfl ?_
      refine aw_ialdN hX (j) (by assumption) rfl hj (by first | decide | assumption) dX0_dueBits_26 ?_
      refine aw_iconst hX (-1) dX0_dueBits_27 (by decide) ?_
      refine aw_ixor hX dX0_dueBits_28 ?_
      refine aw_iand hX dX0_dueBits_29 ?_
      refine aw_goto hX 34 dX0_dueBits_30 (by decide) ?_
      exact aw_iret hX rfl rfl rfl rfl dX0_dueBits_34 (by exact ⟨rfl, rfl⟩)
  · rw [if_neg hw]
    refine AM.intro mf_X0_dueBits (by simp [Value.category]) (Nat.le_of_ble_eq_true rfl) (fun X hl hE hnm hX => ?_)
    subst hl
    subst hE
    show AW X _ _ 0 0 0 [some (.ref d), some (.int (nI j))] []
    refine aw_aload_n hX dX0_dueBits_0 rfl ?_
    refine aw_iload_n hX dX0_dueBits_1 rfl ?_
    refine aw_callVp hX RX0 rfl (tX0_hasColumn _ _ _ e _) rfl mf_X0_hasColumn mi_X0_hasColumn ms_X0_hasColumn kl_X0_41 (by assumption) rfl rfl (by decide) (Nat.le_of_ble_eq_true rfl) dX0_dueBits_2 (by decide) ?_
    rw [bI_f (fun q => hw q.2.1)]
    refine aw_if_eq hX 33 dX0_dueBits_5 (by decide) (fun c_5 => ?_) (fun c_5 => ?_)
    · refine aw_iconst hX (0) dX0_dueBits_33 (by decide) ?_
      exact aw_iret hX rfl rfl rfl rfl dX0_dueBits_34 (by exact ⟨rfl, rfl⟩)
    · exact absurd rfl c_5
theorem tX0_differing (l : Launch) (E : EV) (n : Nat) (H : HDots h d w sh ai st kn fl) {a b : Nat} {p o : IF} (ha : h a = some (cI 40 p)) (hb : h b = some (cI 40 o)) : MX0_differing l E n h [.ref d, .ref a, .ref b] (PR (.int (sumI (fun c => bcF ((p c ^^^ o c) &&& (kn c ^^^ (-1)))) 40)) h) := by
  obtain ⟨e0, e1, e2, e3, e4, e5⟩ := H
  refine AM.intro mf_X0_differing (by simp [Value.category]) (Nat.le_of_ble_eq_true rfl) (fun X hl hE hnm hX => ?_)
  subst hl
  subst hE
  show AW X _ _ 0 0 0 [some (.ref d), some (.ref a), some (.ref b), none, none, none] []
  have loop : ∀ (m j : Nat) (y : Option Value), j ≤ 40 → 40 - j < m → AW X n h 0 0 5 [some (.ref d), some (.ref a), some (.ref b), some (.int (sumI (fun c => bcF ((p c ^^^ o c) &&& (kn c ^^^ (-1)))) j)), some (.int (nI j)), y] [] := by
    intro m
    induction m with
    | zero => intro j y h1 h2; omega
    | succ m ih =>
      intro j y h1 h2
      refine aw_iload hX dX0_differing_5 rfl ?_
      refine aw_bipush hX (40) dX0_differing_7 (by decide) ?_
      refine aw_icmp_ge hX 61 dX0_differing_9 (by decide) (fun c_9 => ?_) (fun c_9 => ?_)
      · have hj : j = 40 := lp_out h1 (by decide) c_9
        subst hj
        refine aw_iload_n hX dX0_differing_61 rfl ?_
        exact aw_iret hX rfl rfl rfl rfl dX0_differing_62 ⟨rfl, rfl⟩
      · refine aw_iload hX dX0_differing_12 rfl ?_
        refine aw_aload_n hX dX0_differing_14 rfl ?_
        refine aw_alen hX _ (by assumption) (by decide) rfl dX0_differing_15 ?_
        refine aw_icmp_ge hX 55 dX0_differing_16 (by decide) (fun c_16 => ?_) (fun c_16 => ?_)
        · exact absurd c_16 (nI_ge (lp_in h1 (by decide) c_9) (by decide))
        · refine aw_iload hX dX0_differing_19 rfl ?_
          refine aw_aload_n hX dX0_differing_21 rfl ?_
          refine aw_alen hX _ (by assumption) (by decide) rfl dX0_differing_22 ?_
          refine aw_icmp_ge hX 55 dX0_differing_23 (by decide) (fun c_23 => ?_) (fun c_23 => ?_)
          · exact absurd c_23 (nI_ge (lp_in h1 (by decide) c_9) (by decide))
          · refine aw_aload_n hX dX0_differing_26 rfl ?_
            refine aw_iload hX dX0_differing_27 rfl ?_
            refine aw_ialdN hX (j) (by assumption) rfl (lp_in h1 (by decide) c_9) (by first | decide | assumption) dX0_differing_29 ?_
            refine aw_aload_n hX dX0_differing_30 rfl ?_
            refine aw_iload hX dX0_differing_31 rfl ?_
            refine aw_ialdN hX (j) (by assumption) rfl (lp_in h1 (by decide) c_9) (by first | decide | assumption) dX0_differing_33 ?_
            refine aw_ixor hX dX0_differing_34 ?_
            refine aw_istore hX dX0_differing_35 (Nat.le_of_ble_eq_true rfl) ?_
            refine aw_iload_n hX dX0_differing_37 rfl ?_
            refine aw_iload hX dX0_differing_38 rfl ?_
            refine aw_aload_n hX dX0_differing_40 rfl ?_
            refine gt_X0_25 hX dX0_differing_41 (by assumption) (by exact rfl) ?_
            refine aw_iload hX dX0_differing_44 rfl ?_
            refine aw_ialdN hX (j) (by assumption) rfl (lp_in h1 (by decide) c_9) (by first | decide | assumption) dX0_differing_46 ?_
            refine aw_iconst hX (-1) dX0_differing_47 (by decide) ?_
            refine aw_ixor hX dX0_differing_48 ?_
            refine aw_iand hX dX0_differing_49 ?_
            refine aw_callSp hX RX0 rfl (tJ6_bitCount _ _ _ _ _) rfl mf_J6_bitCount_0f7a4 mt_J6_bitCount_0f7a4 kl_X0_49 rfl (by decide) (Nat.le_of_ble_eq_true rfl) dX0_differing_50 (by decide) ?_
            refine aw_iadd hX dX0_differing_53 ?_
            refine aw_istore_n hX dX0_differing_54 (Nat.le_of_ble_eq_true rfl) ?_
            refine aw_iinc hX (nI (j + 1)) dX0_differing_55 rfl (nI_1 j) ?_
            refine aw_goto hX 5 dX0_differing_58 (by decide) ?_
            have hj := lp_in h1 (by decide) c_9
            exact ih (j + 1) _ hj (by omega)
  refine aw_iconst hX (0) dX0_differing_0 (by decide) ?_
  refine aw_istore_n hX dX0_differing_1 (Nat.le_of_ble_eq_true rfl) ?_
  refine aw_iconst hX (0) dX0_differing_2 (by decide) ?_
  refine aw_istore hX dX0_differing_3 (Nat.le_of_ble_eq_true rfl) ?_
  exact loop 41 0 _ (by decide) (by decide)
theorem tX0_dotsIn (l : Launch) (E : EV) (n : Nat) {a N : Nat} {p : IF} (ha : h a = some (cI N p)) (hN : N < 2 ^ 31) : MX0_dotsIn l E n h [.ref a] (PR (.int (sumI (fun c => bcF (p c)) N)) h) := by
  refine AM.intro mf_X0_dotsIn (by simp [Value.category]) (Nat.le_of_ble_eq_true rfl) (fun X hl hE hnm hX => ?_)
  subst hl
  subst hE
  show AW X _ _ 0 0 0 [some (.ref a), none, none] []
  have loop : ∀ (m j : Nat), j ≤ N → N - j < m → AW X n h 0 0 4 [some (.ref a), some (.int (sumI (fun c => bcF (p c)) j)), some (.int (nI j))] [] := by
    intro m
    induction m with
    | zero => intro j h1 h2; omega
    | succ m ih =>
      intro j h1 h2
      refine aw_iload_n hX dX0_dotsIn_4 rfl ?_
      refine aw_aload_n hX dX0_dotsIn_5 rfl ?_
      refine aw_alen hX _ (by assumption) (by decide) rfl dX0_dotsIn_6 ?_
      refine aw_icmp_ge hX 25 dX0_dotsIn_7 (by decide) (fun c_7 => ?_) (fun c_7 => ?_)
      · have hj : j = N := lp_out h1 hN c_7
        subst hj
        refine aw_iload_n hX dX0_dotsIn_25 rfl ?_
        exact aw_iret hX rfl rfl rfl rfl dX0_dotsIn_26 ⟨rfl, rfl⟩
      · refine aw_iload_n hX dX0_dotsIn_10 rfl ?_
        refine aw_aload_n hX dX0_dotsIn_11 rfl ?_
        refine aw_iload_n hX dX0_dotsIn_12 rfl ?_
        refine aw_ialdN hX (j) (by assumption) rfl (lp_in h1 hN c_7) (by first | decide | assumption) dX0_dotsIn_13 ?_
        refine aw_callSp hX RX0 rfl (tJ6_bitCount _ _ _ _ _) rfl mf_J6_bitCount_0f7a4 mt_J6_bitCount_0f7a4 kl_X0_49 rfl (by decide) (Nat.le_of_ble_eq_true rfl) dX0_dotsIn_14 (by decide) ?_
        refine aw_iadd hX dX0_dotsIn_17 ?_
        refine aw_istore_n hX dX0_dotsIn_18 (Nat.le_of_ble_eq_true rfl) ?_
        refine aw_iinc hX (nI (j + 1)) dX0_dotsIn_19 rfl (nI_1 j) ?_
        refine aw_goto hX 4 dX0_dotsIn_22 (by decide) ?_
        have hj := lp_in h1 hN c_7
        exact ih (j + 1) hj (by omega)
  refine aw_iconst hX (0) dX0_dotsIn_0 (by decide) ?_
  refine aw_istore_n hX dX0_dotsIn_1 (Nat.le_of_ble_eq_true rfl) ?_
  refine aw_iconst hX (0) dX0_dotsIn_2 (by decide) ?_
  refine aw_istore_n hX dX0_dotsIn_3 (Nat.le_of_ble_eq_true rfl) ?_
  exact loop (N + 1) 0 (Nat.zero_le _) (by omega)
theorem tX0_otherDots (l : Launch) (E : EV) (n : Nat) (H : HDots h d w sh ai st kn fl) : MX0_otherDots l E n h [.ref d] (PR (.int (sumI (fun c => bcF (ai c ^^^ sh c)) 40)) h) := by
  obtain ⟨e0, e1, e2, e3, e4, e5⟩ := H
  refine AM.intro mf_X0_otherDots (by simp [Value.category]) (Nat.le_of_ble_eq_true rfl) (fun X hl hE hnm hX => ?_)
  subst hl
  subst hE
  show AW X _ _ 0 0 0 [some (.ref d), none, none] []
  have loop : ∀ (m j : Nat), j ≤ 40 → 40 - j < m → AW X n h 0 0 4 [some (.ref d), some (.int (sumI (fun c => bcF (ai c ^^^ sh c)) j)), some (.int (nI j))] [] := by
    intro m
    induction m with
    | zero => intro j h1 h2; omega
    | succ m ih =>
      intro j h1 h2
      refine aw_iload_n hX dX0_otherDots_4 rfl ?_
      refine aw_bipush hX (40) dX0_otherDots_5 (by decide) ?_
      refine aw_icmp_ge hX 35 dX0_otherDots_7 (by decide) (fun c_7 => ?_) (fun c_7 => ?_)
      · have hj : j = 40 := lp_out h1 (by decide) c_7
        subst hj
        refine aw_iload_n hX dX0_otherDots_35 rfl ?_
        exact aw_iret hX rfl rfl rfl rfl dX0_otherDots_36 ⟨rfl, rfl⟩
      · refine aw_iload_n hX dX0_otherDots_10 rfl ?_
        refine aw_aload_n hX dX0_otherDots_11 rfl ?_
        refine gt_X0_19 hX dX0_otherDots_12 (by assumption) (by exact rfl) ?_
        refine aw_iload_n hX dX0_otherDots_15 rfl ?_
        refine aw_ialdN hX (j) (by assumption) rfl (lp_in h1 (by decide) c_7) (by first | decide | assumption) dX0_otherDots_16 ?_
        refine aw_aload_n hX dX0_otherDots_17 rfl ?_
        refine gt_X0_15 hX dX0_otherDots_18 (by assumption) (by exact rfl) ?_
        refine aw_iload_n hX dX0_otherDots_21 rfl ?_
        refine aw_ialdN hX (j) (by assumption) rfl (lp_in h1 (by decide) c_7) (by first | decide | assumption) dX0_otherDots_22 ?_
        refine aw_ixor hX dX0_otherDots_23 ?_
        refine aw_callSp hX RX0 rfl (tJ6_bitCount _ _ _ _ _) rfl mf_J6_bitCount_0f7a4 mt_J6_bitCount_0f7a4 kl_X0_49 rfl (by decide) (Nat.le_of_ble_eq_true rfl) dX0_otherDots_24 (by decide) ?_
        refine aw_iadd hX dX0_otherDots_27 ?_
        refine aw_istore_n hX dX0_otherDots_28 (Nat.le_of_ble_eq_true rfl) ?_
        refine aw_iinc hX (nI (j + 1)) dX0_otherDots_29 rfl (nI_1 j) ?_
        refine aw_goto hX 4 dX0_otherDots_32 (by decide) ?_
        have hj := lp_in h1 (by decide) c_7
        exact ih (j + 1) hj (by omega)
  refine aw_iconst hX (0) dX0_otherDots_0 (by decide) ?_
  refine aw_istore_n hX dX0_otherDots_1 (Nat.le_of_ble_eq_true rfl) ?_
  refine aw_iconst hX (0) dX0_otherDots_2 (by decide) ?_
  refine aw_istore_n hX dX0_otherDots_3 (Nat.le_of_ble_eq_true rfl) ?_
  exact loop 41 0 (by decide) (by decide)
theorem tX0_knownAgainst (l : Launch) (E : EV) (n : Nat) (H : HDots h d w sh ai st kn fl) {a : Nat} {p : IF} (ha : h a = some (cI 40 p)) : MX0_knownAgainst l E n h [.ref d, .ref a] (PR (.int (sumI (fun c => bcF ((p c ^^^ sh c) &&& kn c)) 40)) h) := by
  obtain ⟨e0, e1, e2, e3, e4, e5⟩ := H
  refine AM.intro mf_X0_knownAgainst (by simp [Value.category]) (Nat.le_of_ble_eq_true rfl) (fun X hl hE hnm hX => ?_)
  subst hl
  subst hE
  show AW X _ _ 0 0 0 [some (.ref d), some (.ref a), none, none, none] []
  have loop : ∀ (m j : Nat) (y : Option Value), j ≤ 40 → 40 - j < m → AW X n h 0 0 4 [some (.ref d), some (.ref a), some (.int (sumI (fun c => bcF ((p c ^^^ sh c) &&& kn c)) j)), some (.int (nI j)), y] [] := by
    intro m
    induction m with
    | zero => intro j y h1 h2; omega
    | succ m ih =>
      intro j y h1 h2
      refine aw_iload_n hX dX0_knownAgainst_4 rfl ?_
      refine aw_bipush hX (40) dX0_knownAgainst_5 (by decide) ?_
      refine aw_icmp_ge hX 49 dX0_knownAgainst_7 (by decide) (fun c_7 => ?_) (fun c_7 => ?_)
      · have hj : j = 40 := lp_out h1 (by decide) c_7
        subst hj
        refine aw_iload_n hX dX0_knownAgainst_49 rfl ?_
        exact aw_iret hX rfl rfl rfl rfl dX0_knownAgainst_50 ⟨rfl, rfl⟩
      · refine aw_iload_n hX dX0_knownAgainst_10 rfl ?_
        refine aw_aload_n hX dX0_knownAgainst_11 rfl ?_
        refine aw_alen hX _ (by assumption) (by decide) rfl dX0_knownAgainst_12 ?_
        refine aw_icmp_ge hX 49 dX0_knownAgainst_13 (by decide) (fun c_13 => ?_) (fun c_13 => ?_)
        · exact absurd c_13 (nI_ge (lp_in h1 (by decide) c_7) (by decide))
        · refine aw_aload_n hX dX0_knownAgainst_16 rfl ?_
          refine aw_iload_n hX dX0_knownAgainst_17 rfl ?_
          refine aw_ialdN hX (j) (by assumption) rfl (lp_in h1 (by decide) c_7) (by first | decide | assumption) dX0_knownAgainst_18 ?_
          refine aw_aload_n hX dX0_knownAgainst_19 rfl ?_
          refine gt_X0_15 hX dX0_knownAgainst_20 (by assumption) (by exact rfl) ?_
          refine aw_iload_n hX dX0_knownAgainst_23 rfl ?_
          refine aw_ialdN hX (j) (by assumption) rfl (lp_in h1 (by decide) c_7) (by first | decide | assumption) dX0_knownAgainst_24 ?_
          refine aw_ixor hX dX0_knownAgainst_25 ?_
          refine aw_istore hX dX0_knownAgainst_26 (Nat.le_of_ble_eq_true rfl) ?_
          refine aw_iload_n hX dX0_knownAgainst_28 rfl ?_
          refine aw_iload hX dX0_knownAgainst_29 rfl ?_
          refine aw_aload_n hX dX0_knownAgainst_31 rfl ?_
          refine gt_X0_25 hX dX0_knownAgainst_32 (by assumption) (by exact rfl) ?_
          refine aw_iload_n hX dX0_knownAgainst_35 rfl ?_
          refine aw_ialdN hX (j) (by assumption) rfl (lp_in h1 (by decide) c_7) (by first | decide | assumption) dX0_knownAgainst_36 ?_
          refine aw_iand hX dX0_knownAgainst_37 ?_
          refine aw_callSp hX RX0 rfl (tJ6_bitCount _ _ _ _ _) rfl mf_J6_bitCount_0f7a4 mt_J6_bitCount_0f7a4 kl_X0_49 rfl (by decide) (Nat.le_of_ble_eq_true rfl) dX0_knownAgainst_38 (by decide) ?_
          refine aw_iadd hX dX0_knownAgainst_41 ?_
          refine aw_istore_n hX dX0_knownAgainst_42 (Nat.le_of_ble_eq_true rfl) ?_
          refine aw_iinc hX (nI (j + 1)) dX0_knownAgainst_43 rfl (nI_1 j) ?_
          refine aw_goto hX 4 dX0_knownAgainst_46 (by decide) ?_
          have hj := lp_in h1 (by decide) c_7
          exact ih (j + 1) _ hj (by omega)
  refine aw_iconst hX (0) dX0_knownAgainst_0 (by decide) ?_
  refine aw_istore_n hX dX0_knownAgainst_1 (Nat.le_of_ble_eq_true rfl) ?_
  refine aw_iconst hX (0) dX0_knownAgainst_2 (by decide) ?_
  refine aw_istore_n hX dX0_knownAgainst_3 (Nat.le_of_ble_eq_true rfl) ?_
  exact loop 41 0 _ (by decide) (by decide)
theorem tX0_dueDots (l : Launch) (E : EV) (n : Nat) (H : HDots h d w sh ai st kn fl) : MX0_dueDots l E n h [.ref d] (PR (.int (sumI (fun c => bcF ((ai c ^^^ sh c) &&& (kn c ^^^ (-1)))) 40)) h) := by
  have e := H
  obtain ⟨e0, e1, e2, e3, e4, e5⟩ := H
  refine AM.intro mf_X0_dueDots (by simp [Value.category]) (Nat.le_of_ble_eq_true rfl) (fun X hl hE hnm hX => ?_)
  subst hl
  subst hE
  show AW X _ _ 0 0 0 [some (.ref d)] []
  refine aw_aload_n hX dX0_dueDots_0 rfl ?_
  refine aw_aload_n hX dX0_dueDots_1 rfl ?_
  refine gt_X0_19 hX dX0_dueDots_2 (by assumption) (by exact rfl) ?_
  refine aw_aload_n hX dX0_dueDots_5 rfl ?_
  refine gt_X0_15 hX dX0_dueDots_6 (by assumption) (by exact rfl) ?_
  refine aw_callVp hX RX0 rfl (tX0_differing _ _ _ e e2 e1) rfl mf_X0_differing mi_X0_differing ms_X0_differing kl_X0_45 (by assumption) rfl rfl (by decide) (Nat.le_of_ble_eq_true rfl) dX0_dueDots_9 (by decide) ?_
  exact aw_iret hX rfl rfl rfl rfl dX0_dueDots_12 (by exact ⟨rfl, rfl⟩)
theorem tX0_stuckDots (l : Launch) (E : EV) (n : Nat) (H : HDots h d w sh ai st kn fl) : MX0_stuckDots l E n h [.ref d] (PR (.int (sumI (fun c => bcF (st c)) 40)) h) := by
  obtain ⟨e0, e1, e2, e3, e4, e5⟩ := H
  refine AM.intro mf_X0_stuckDots (by simp [Value.category]) (Nat.le_of_ble_eq_true rfl) (fun X hl hE hnm hX => ?_)
  subst hl
  subst hE
  show AW X _ _ 0 0 0 [some (.ref d)] []
  refine aw_aload_n hX dX0_stuckDots_0 rfl ?_
  refine gt_X0_22 hX dX0_stuckDots_1 (by assumption) (by exact rfl) ?_
  refine aw_callSp hX RX0 rfl (tX0_dotsIn _ _ _ e3 (by decide)) rfl mf_X0_dotsIn mt_X0_dotsIn kl_X0_55 rfl (by decide) (Nat.le_of_ble_eq_true rfl) dX0_stuckDots_4 (by decide) ?_
  exact aw_iret hX rfl rfl rfl rfl dX0_stuckDots_7 (by exact ⟨rfl, rfl⟩)
theorem tX0_knownDots (l : Launch) (E : EV) (n : Nat) (H : HDots h d w sh ai st kn fl) : MX0_knownDots l E n h [.ref d] (PR (.int (sumI (fun c => bcF (kn c)) 40)) h) := by
  obtain ⟨e0, e1, e2, e3, e4, e5⟩ := H
  refine AM.intro mf_X0_knownDots (by simp [Value.category]) (Nat.le_of_ble_eq_true rfl) (fun X hl hE hnm hX => ?_)
  subst hl
  subst hE
  show AW X _ _ 0 0 0 [some (.ref d)] []
  refine aw_aload_n hX dX0_knownDots_0 rfl ?_
  refine gt_X0_25 hX dX0_knownDots_1 (by assumption) (by exact rfl) ?_
  refine aw_callSp hX RX0 rfl (tX0_dotsIn _ _ _ e4 (by decide)) rfl mf_X0_dotsIn mt_X0_dotsIn kl_X0_55 rfl (by decide) (Nat.le_of_ble_eq_true rfl) dX0_knownDots_4 (by decide) ?_
  exact aw_iret hX rfl rfl rfl rfl dX0_knownDots_7 (by exact ⟨rfl, rfl⟩)
variable {j i : Nat}
theorem tX0_hasDotIn (l : Launch) (E : EV) (n : Nat) (H : HDots h d w sh ai st kn fl) (hj : j < 40) (hw : nI j < w) (hi : i < 7) : MX0_hasDot l E n h [.ref d, .int (nI j), .int (nI i)] (PR (.int 1) h) := by
  have t := tX0_hasDot l E n H (nI j) (nI i)
  rw [bI_t ⟨⟨nI_pos' (by omega), hw, nI_lt hj (by decide)⟩, nI_pos' (by omega), nI_lt hi (by decide)⟩] at t
  exact t
theorem tX0_isStuck (l : Launch) (E : EV) (n : Nat) (H : HDots h d w sh ai st kn fl) (hj : j < 40) (hw : nI j < w) (hi : i < 7) : MX0_isStuck l E n h [.ref d, .int (nI j), .int (nI i)] (PR (.int (bI (¬ st j &&& mk i = 0))) h) := by
  have e := H
  obtain ⟨e0, e1, e2, e3, e4, e5⟩ := H
  refine AM.intro mf_X0_isStuck (by simp [Value.category]) (Nat.le_of_ble_eq_true rfl) (fun X hl hE hnm hX => ?_)
  subst hl
  subst hE
  show AW X _ _ 0 0 0 [some (.ref d), some (.int (nI j)), some (.int (nI i))] []
  refine aw_aload_n hX dX0_isStuck_0 rfl ?_
  refine aw_iload_n hX dX0_isStuck_1 rfl ?_
  refine aw_iload_n hX dX0_isStuck_2 rfl ?_
  refine aw_callVp hX RX0 rfl (tX0_hasDotIn _ _ _ e hj hw hi) rfl mf_X0_hasDot mi_X0_hasDot ms_X0_hasDot kl_X0_59 (by assumption) rfl rfl (by decide) (Nat.le_of_ble_eq_true rfl) dX0_isStuck_3 (by decide) ?_
  refine aw_if_eq hX 26 dX0_isStuck_6 (by decide) (fun c_6 => ?_) (fun c_6 => ?_)
  · exact absurd c_6 (by decide)
  · refine aw_aload_n hX dX0_isStuck_9 rfl ?_
    refine gt_X0_22 hX dX0_isStuck_10 (by assumption) (by exact rfl) ?_
    refine aw_iload_n hX dX0_isStuck_13 rfl ?_
    refine aw_ialdN hX (j) (by assumption) rfl hj (by first | decide | assumption) dX0_isStuck_14 ?_
    refine aw_iconst hX (1) dX0_isStuck_15 (by decide) ?_
    refine aw_iload_n hX dX0_isStuck_16 rfl ?_
    refine aw_ishl hX dX0_isStuck_17 ?_
    refine aw_iand hX dX0_isStuck_18 ?_
    refine aw_if_eq hX 26 dX0_isStuck_19 (by decide) (fun c_19 => ?_) (fun c_19 => ?_)
    · refine aw_iconst hX (0) dX0_isStuck_26 (by decide) ?_
      exact aw_zret hX rfl (by first | exact Or.inl rfl | exact Or.inr rfl | assumption) rfl rfl rfl dX0_isStuck_27 (by first | exact prT c_19 | exact prF (fun q => q c_19))
    · refine aw_iconst hX (1) dX0_isStuck_22 (by decide) ?_
      refine aw_goto hX 27 dX0_isStuck_23 (by decide) ?_
      exact aw_zret hX rfl (by first | exact Or.inl rfl | exact Or.inr rfl | assumption) rfl rfl rfl dX0_isStuck_27 (by first | exact prT c_19 | exact prF (fun q => q c_19))
theorem tX0_flipsOf (l : Launch) (E : EV) (n : Nat) (H : HDots h d w sh ai st kn fl) (hj : j < 40) (hw : nI j < w) (hi : i < 7) : MX0_flipsOf l E n h [.ref d, .int (nI j), .int (nI i)] (PR (.int (fl (j * 7 + i))) h) := by
  have e := H
  obtain ⟨e0, e1, e2, e3, e4, e5⟩ := H
  refine AM.intro mf_X0_flipsOf (by simp [Value.category]) (Nat.le_of_ble_eq_true rfl) (fun X hl hE hnm hX => ?_)
  subst hl
  subst hE
  show AW X _ _ 0 0 0 [some (.ref d), some (.int (nI j)), some (.int (nI i))] []
  refine aw_aload_n hX dX0_flipsOf_0 rfl ?_
  refine aw_iload_n hX dX0_flipsOf_1 rfl ?_
  refine aw_iload_n hX dX0_flipsOf_2 rfl ?_
  refine aw_callVp hX RX0 rfl (tX0_hasDotIn _ _ _ e hj hw hi) rfl mf_X0_hasDot mi_X0_hasDot ms_X0_hasDot kl_X0_59 (by assumption) rfl rfl (by decide) (Nat.le_of_ble_eq_true rfl) dX0_flipsOf_3 (by decide) ?_
  refine aw_if_eq hX 23 dX0_flipsOf_6 (by decide) (fun c_6 => ?_) (fun c_6 => ?_)
  · exact absurd c_6 (by decide)
  · refine aw_aload_n hX dX0_flipsOf_9 rfl ?_
    refine gt_X0_28 hX dX0_flipsOf_10 (by assumption) (by exact rfl) ?_
    refine aw_iload_n hX dX0_flipsOf_13 rfl ?_
    refine aw_bipush hX (7) dX0_flipsOf_14 (by decide) ?_
    refine aw_imul hX dX0_flipsOf_16 ?_
    refine aw_iload_n hX dX0_flipsOf_17 rfl ?_
    refine aw_iadd hX dX0_flipsOf_18 ?_
    refine aw_ialdN hX (j * 7 + i) (by assumption) (idx7 j i) (by omega) (by first | decide | assumption) dX0_flipsOf_19 ?_
    refine aw_goto hX 24 dX0_flipsOf_20 (by decide) ?_
    exact aw_iret hX rfl rfl rfl rfl dX0_flipsOf_24 (by exact ⟨rfl, rfl⟩)
theorem tX0_stick (l : Launch) (E : EV) (n : Nat) (H : HDots h d w sh ai st kn fl) (hj : j < 40) (hw : nI j < w) (hi : i < 7) : MX0_stick l E n h [.ref d, .int (nI j), .int (nI i)] (fun v h' => v = none ∧ HDots h' d w sh ai (upd st j (st j ||| mk i)) kn fl ∧ Sm d (d + 6) h h') := by
  have e := H
  obtain ⟨e0, e1, e2, e3, e4, e5⟩ := H
  refine AM.intro mf_X0_stick (by simp [Value.category]) (Nat.le_of_ble_eq_true rfl) (fun X hl hE hnm hX => ?_)
  subst hl
  subst hE
  show AW X _ _ 0 0 0 [some (.ref d), some (.int (nI j)), some (.int (nI i))] []
  refine aw_aload_n hX dX0_stick_0 rfl ?_
  refine aw_iload_n hX dX0_stick_1 rfl ?_
  refine aw_iload_n hX dX0_stick_2 rfl ?_
  refine aw_callVp hX RX0 rfl (tX0_hasDotIn _ _ _ e hj hw hi) rfl mf_X0_hasDot mi_X0_hasDot ms_X0_hasDot kl_X0_59 (by assumption) rfl rfl (by decide) (Nat.le_of_ble_eq_true rfl) dX0_stick_3 (by decide) ?_
  refine aw_if_eq hX 21 dX0_stick_6 (by decide) (fun c_6 => ?_) (fun c_6 => ?_)
  · exact absurd c_6 (by decide)
  · refine aw_aload_n hX dX0_stick_9 rfl ?_
    refine gt_X0_22 hX dX0_stick_10 (by assumption) (by exact rfl) ?_
    refine aw_iload_n hX dX0_stick_13 rfl ?_
    refine aw_dup2 hX dX0_stick_14 rfl rfl ?_
    refine aw_ialdN hX (j) (by assumption) rfl hj (by first | decide | assumption) dX0_stick_15 ?_
    refine aw_iconst hX (1) dX0_stick_16 (by decide) ?_
    refine aw_iload_n hX dX0_stick_17 rfl ?_
    refine aw_ishl hX dX0_stick_18 ?_
    refine aw_ior hX dX0_stick_19 ?_
    refine aw_iastN hX (j) (by assumption) rfl hj (by first | decide | assumption) dX0_stick_20 ?_
    exact aw_vret hX rfl rfl rfl rfl dX0_stick_21 (by exact ⟨rfl, e.a3 _, by repeat first | exact Sm.rf | refine Sm.set ?_ (by omega) (by omega)⟩)
theorem tX0_makeKnown (l : Launch) (E : EV) (n : Nat) (H : HDots h d w sh ai st kn fl) (hj : j < 40) (hw : nI j < w) (hi : i < 7) : MX0_makeKnown l E n h [.ref d, .int (nI j), .int (nI i)] (fun v h' => v = none ∧ HDots h' d w sh ai st (upd kn j (kn j ||| mk i)) fl ∧ Sm d (d + 6) h h') := by
  have e := H
  obtain ⟨e0, e1, e2, e3, e4, e5⟩ := H
  refine AM.intro mf_X0_makeKnown (by simp [Value.category]) (Nat.le_of_ble_eq_true rfl) (fun X hl hE hnm hX => ?_)
  subst hl
  subst hE
  show AW X _ _ 0 0 0 [some (.ref d), some (.int (nI j)), some (.int (nI i))] []
  refine aw_aload_n hX dX0_makeKnown_0 rfl ?_
  refine aw_iload_n hX dX0_makeKnown_1 rfl ?_
  refine aw_iload_n hX dX0_makeKnown_2 rfl ?_
  refine aw_callVp hX RX0 rfl (tX0_hasDotIn _ _ _ e hj hw hi) rfl mf_X0_hasDot mi_X0_hasDot ms_X0_hasDot kl_X0_59 (by assumption) rfl rfl (by decide) (Nat.le_of_ble_eq_true rfl) dX0_makeKnown_3 (by decide) ?_
  refine aw_if_eq hX 21 dX0_makeKnown_6 (by decide) (fun c_6 => ?_) (fun c_6 => ?_)
  · exact absurd c_6 (by decide)
  · refine aw_aload_n hX dX0_makeKnown_9 rfl ?_
    refine gt_X0_25 hX dX0_makeKnown_10 (by assumption) (by exact rfl) ?_
    refine aw_iload_n hX dX0_makeKnown_13 rfl ?_
    refine aw_dup2 hX dX0_makeKnown_14 rfl rfl ?_
    refine aw_ialdN hX (j) (by assumption) rfl hj (by first | decide | assumption) dX0_makeKnown_15 ?_
    refine aw_iconst hX (1) dX0_makeKnown_16 (by decide) ?_
    refine aw_iload_n hX dX0_makeKnown_17 rfl ?_
    refine aw_ishl hX dX0_makeKnown_18 ?_
    refine aw_ior hX dX0_makeKnown_19 ?_
    refine aw_iastN hX (j) (by assumption) rfl hj (by first | decide | assumption) dX0_makeKnown_20 ?_
    exact aw_vret hX rfl rfl rfl rfl dX0_makeKnown_21 (by exact ⟨rfl, e.a4 _, by repeat first | exact Sm.rf | refine Sm.set ?_ (by omega) (by omega)⟩)
theorem tX0_flip (l : Launch) (E : EV) (n : Nat) (H : HDots h d w sh ai st kn fl) (hj : j < 40) (hw : nI j < w) (hi : i < 7) : MX0_flip l E n h [.ref d, .int (nI j), .int (nI i)] (fun v h' => v = none ∧ HDots h' d w (upd sh j (sh j ^^^ mk i)) ai st kn (upd fl (j * 7 + i) (fl (j * 7 + i) + 1)) ∧ Sm d (d + 6) h h') := by
  have e := H
  obtain ⟨e0, e1, e2, e3, e4, e5⟩ := H
  refine AM.intro mf_X0_flip (by simp [Value.category]) (Nat.le_of_ble_eq_true rfl) (fun X hl hE hnm hX => ?_)
  subst hl
  subst hE
  show AW X _ _ 0 0 0 [some (.ref d), some (.int (nI j)), some (.int (nI i))] []
  refine aw_aload_n hX dX0_flip_0 rfl ?_
  refine aw_iload_n hX dX0_flip_1 rfl ?_
  refine aw_iload_n hX dX0_flip_2 rfl ?_
  refine aw_callVp hX RX0 rfl (tX0_hasDotIn _ _ _ e hj hw hi) rfl mf_X0_hasDot mi_X0_hasDot ms_X0_hasDot kl_X0_59 (by assumption) rfl rfl (by decide) (Nat.le_of_ble_eq_true rfl) dX0_flip_3 (by decide) ?_
  refine aw_if_eq hX 36 dX0_flip_6 (by decide) (fun c_6 => ?_) (fun c_6 => ?_)
  · exact absurd c_6 (by decide)
  · refine aw_aload_n hX dX0_flip_9 rfl ?_
    refine gt_X0_15 hX dX0_flip_10 (by assumption) (by exact rfl) ?_
    refine aw_iload_n hX dX0_flip_13 rfl ?_
    refine aw_dup2 hX dX0_flip_14 rfl rfl ?_
    refine aw_ialdN hX (j) (by assumption) rfl hj (by first | decide | assumption) dX0_flip_15 ?_
    refine aw_iconst hX (1) dX0_flip_16 (by decide) ?_
    refine aw_iload_n hX dX0_flip_17 rfl ?_
    refine aw_ishl hX dX0_flip_18 ?_
    refine aw_ixor hX dX0_flip_19 ?_
    refine aw_iastN hX (j) (by assumption) rfl hj (by first | decide | assumption) dX0_flip_20 ?_
    have e := e.a1 (upd sh j (sh j ^^^ mk i))
    obtain ⟨e0, e1, e2, e3, e4, e5⟩ := id e
    refine aw_aload_n hX dX0_flip_21 rfl ?_
    refine gt_X0_28 hX dX0_flip_22 (by assumption) (by exact rfl) ?_
    refine aw_iload_n hX dX0_flip_25 rfl ?_
    refine aw_bipush hX (7) dX0_flip_26 (by decide) ?_
    refine aw_imul hX dX0_flip_28 ?_
    refine aw_iload_n hX dX0_flip_29 rfl ?_
    refine aw_iadd hX dX0_flip_30 ?_
    refine aw_dup2 hX dX0_flip_31 rfl rfl ?_
    refine aw_ialdN hX (j * 7 + i) (by assumption) (idx7 j i) (by omega) (by first | decide | assumption) dX0_flip_32 ?_
    refine aw_iconst hX (1) dX0_flip_33 (by decide) ?_
    refine aw_iadd hX dX0_flip_34 ?_
    refine aw_iastN hX (j * 7 + i) (by assumption) (idx7 j i) (by omega) (by first | decide | assumption) dX0_flip_35 ?_
    exact aw_vret hX rfl rfl rfl rfl dX0_flip_36 (by exact ⟨rfl, e.a5 _, by repeat first | exact Sm.rf | refine Sm.set ?_ (by omega) (by omega)⟩)
theorem tX0_renewDot (l : Launch) (E : EV) (n : Nat) (H : HDots h d w sh ai st kn fl) (hj : j < 40) (hw : nI j < w) (hi : i < 7) : MX0_renewDot l E n h [.ref d, .int (nI j), .int (nI i)] (fun v h' => v = none ∧ HDots h' d w sh ai (upd st j (st j &&& (mk i ^^^ (-1)))) (upd kn j (kn j &&& (mk i ^^^ (-1)))) (upd fl (j * 7 + i) 0) ∧ Sm d (d + 6) h h') := by
  have e := H
  obtain ⟨e0, e1, e2, e3, e4, e5⟩ := H
  refine AM.intro mf_X0_renewDot (by simp [Value.category]) (Nat.le_of_ble_eq_true rfl) (fun X hl hE hnm hX => ?_)
  subst hl
  subst hE
  show AW X _ _ 0 0 0 [some (.ref d), some (.int (nI j)), some (.int (nI i))] []
  refine aw_aload_n hX dX0_renewDot_0 rfl ?_
  refine aw_iload_n hX dX0_renewDot_1 rfl ?_
  refine aw_iload_n hX dX0_renewDot_2 rfl ?_
  refine aw_callVp hX RX0 rfl (tX0_hasDotIn _ _ _ e hj hw hi) rfl mf_X0_hasDot mi_X0_hasDot ms_X0_hasDot kl_X0_59 (by assumption) rfl rfl (by decide) (Nat.le_of_ble_eq_true rfl) dX0_renewDot_3 (by decide) ?_
  refine aw_if_eq hX 49 dX0_renewDot_6 (by decide) (fun c_6 => ?_) (fun c_6 => ?_)
  · exact absurd c_6 (by decide)
  · refine aw_aload_n hX dX0_renewDot_9 rfl ?_
    refine gt_X0_22 hX dX0_renewDot_10 (by assumption) (by exact rfl) ?_
    refine aw_iload_n hX dX0_renewDot_13 rfl ?_
    refine aw_dup2 hX dX0_renewDot_14 rfl rfl ?_
    refine aw_ialdN hX (j) (by assumption) rfl hj (by first | decide | assumption) dX0_renewDot_15 ?_
    refine aw_iconst hX (1) dX0_renewDot_16 (by decide) ?_
    refine aw_iload_n hX dX0_renewDot_17 rfl ?_
    refine aw_ishl hX dX0_renewDot_18 ?_
    refine aw_iconst hX (-1) dX0_renewDot_19 (by decide) ?_
    refine aw_ixor hX dX0_renewDot_20 ?_
    refine aw_iand hX dX0_renewDot_21 ?_
    refine aw_iastN hX (j) (by assumption) rfl hj (by first | decide | assumption) dX0_renewDot_22 ?_
    have e := e.a3 (upd st j (st j &&& (mk i ^^^ (-1))))
    obtain ⟨e0, e1, e2, e3, e4, e5⟩ := id e
    refine aw_aload_n hX dX0_renewDot_23 rfl ?_
    refine gt_X0_25 hX dX0_renewDot_24 (by assumption) (by exact rfl) ?_
    refine aw_iload_n hX dX0_renewDot_27 rfl ?_
    refine aw_dup2 hX dX0_renewDot_28 rfl rfl ?_
    refine aw_ialdN hX (j) (by assumption) rfl hj (by first | decide | assumption) dX0_renewDot_29 ?_
    refine aw_iconst hX (1) dX0_renewDot_30 (by decide) ?_
    refine aw_iload_n hX dX0_renewDot_31 rfl ?_
    refine aw_ishl hX dX0_renewDot_32 ?_
    refine aw_iconst hX (-1) dX0_renewDot_33 (by decide) ?_
    refine aw_ixor hX dX0_renewDot_34 ?_
    refine aw_iand hX dX0_renewDot_35 ?_
    refine aw_iastN hX (j) (by assumption) rfl hj (by first | decide | assumption) dX0_renewDot_36 ?_
    have e := e.a4 (upd kn j (kn j &&& (mk i ^^^ (-1))))
    obtain ⟨e0, e1, e2, e3, e4, e5⟩ := id e
    refine aw_aload_n hX dX0_renewDot_37 rfl ?_
    refine gt_X0_28 hX dX0_renewDot_38 (by assumption) (by exact rfl) ?_
    refine aw_iload_n hX dX0_renewDot_41 rfl ?_
    refine aw_bipush hX (7) dX0_renewDot_42 (by decide) ?_
    refine aw_imul hX dX0_renewDot_44 ?_
    refine aw_iload_n hX dX0_renewDot_45 rfl ?_
    refine aw_iadd hX dX0_renewDot_46 ?_
    refine aw_iconst hX (0) dX0_renewDot_47 (by decide) ?_
    refine aw_iastN hX (j * 7 + i) (by assumption) (idx7 j i) (by omega) (by first | decide | assumption) dX0_renewDot_48 ?_
    exact aw_vret hX rfl rfl rfl rfl dX0_renewDot_49 (by exact ⟨rfl, e.a5 _, by repeat first | exact Sm.rf | refine Sm.set ?_ (by omega) (by omega)⟩)
end DOTS
end
section
/-! whole numbers as ints; Meter, Script -/
def iI (z : Int) : Int32 := Int32.ofInt z
theorem iI_n (n : Nat) : nI n = iI n := Int32.ofInt_eq_ofNat.symm
theorem iI_add (a b : Int) : iI a + iI b = iI (a + b) := (Int32.ofInt_add a b).symm
theorem iI_sub (a b : Int) : iI a - iI b = iI (a - b) := (Int32.ofInt_sub a b).symm
theorem iI_toInt {z : Int} (h1 : -2147483648 ≤ z) (h2 : z < 2147483648) : (iI z).toInt = z := Int32.toInt_ofInt_of_le h1 h2
theorem iI_lt {a b : Int} (h1 : -2147483648 ≤ a) (h2 : a < 2147483648) (h3 : -2147483648 ≤ b) (h4 : b < 2147483648) : iI a < iI b ↔ a < b := by rw [Int32.lt_iff_toInt_lt, iI_toInt h1 h2, iI_toInt h3 h4]
theorem iI_le {a b : Int} (h1 : -2147483648 ≤ a) (h2 : a < 2147483648) (h3 : -2147483648 ≤ b) (h4 : b < 2147483648) : iI a ≤ iI b ↔ a ≤ b := by rw [Int32.le_iff_toInt_le, iI_toInt h1 h2, iI_toInt h3 h4]
theorem iI_inj {a b : Int} (h1 : -2147483648 ≤ a) (h2 : a < 2147483648) (h3 : -2147483648 ≤ b) (h4 : b < 2147483648) : iI a = iI b ↔ a = b := by rw [← Int32.toInt_inj, iI_toInt h1 h2, iI_toInt h3 h4]
abbrev nF (f : Nat → Nat) : IF := fun j => nI (f j)
def updN (f : Nat → Nat) (k v : Nat) : Nat → Nat := fun j => if j = k then v else f j
theorem updN_eq (f : Nat → Nat) (k v : Nat) : updN f k v k = v := if_pos rfl
theorem updN_ne (f : Nat → Nat) {k j : Nat} (v : Nat) (h : j ≠ k) : updN f k v j = f j := if_neg h
theorem upd_nF (f : Nat → Nat) (k v : Nat) : upd (nF f) k (nI v) = nF (updN f k v) := by
  funext j
  by_cases e : j = k
  · subst e
    rw [pk_us, show nF (updN f j v) j = nI (updN f j v j) from rfl, updN_eq]
  · rw [pk_un e, show nF (updN f k v) j = nI (updN f k v j) from rfl, updN_ne f v e]
def HMeter (h : HP) (d : Nat) (fl tr po : Int32) (T : Nat) (re : IF) : Prop :=
  h d = some (cO 3 [.int fl, .int tr, .int po, .int (nI T), .ref (d + 1)]) ∧ h (d + 1) = some (cI 20 re)
section METER
variable {h : HP} {d : Nat} {fl tr po : Int32} {T : Nat} {re : IF}
theorem HMeter.sm {h' : HP} {lo hi : Nat} (H : HMeter h d fl tr po T re) (s : Sm lo hi h h') (hq : hi ≤ d ∨ d + 2 ≤ lo) : HMeter h' d fl tr po T re :=
  ⟨(s.at (by omega)).trans H.1, (s.at (by omega)).trans H.2⟩
theorem HMeter.off (H : HMeter h d fl tr po T re) {a : Nat} (c : AC) (ha : a < d ∨ d + 2 ≤ a) : HMeter (hset h a c) d fl tr po T re :=
  H.sm (lo := a) (hi := a + 1) (Sm.rf.set (Nat.le_refl _) (Nat.lt_succ_self _)) (by omega)
theorem HMeter.a0 (H : HMeter h d fl tr po T re) (fl' tr' po' : Int32) (T' : Nat) : HMeter (hset h d (cO 3 [.int fl', .int tr', .int po', .int (nI T'), .ref (d + 1)])) d fl' tr' po' T' re :=
  ⟨hset_eq _ _ _, (hset_ne _ _ (by omega)).trans H.2⟩
theorem HMeter.a1 (H : HMeter h d fl tr po T re) (f : IF) : HMeter (hset h (d + 1) (cI 20 f)) d fl tr po T f :=
  ⟨(hset_ne _ _ (by omega)).trans H.1, hset_eq _ _ _⟩
theorem tX3_copyFrom (l : Launch) (E : EV) (n : Nat) {d' : Nat} {fl' tr' po' : Int32} {T' : Nat} {re' : IF} (H : HMeter h d fl tr po T re) (H' : HMeter h d' fl' tr' po' T' re') (hd : d + 2 ≤ d' ∨ d' + 2 ≤ d) : MX3_copyFrom l E n h [.ref d, .ref d'] (fun v h' => v = none ∧ HMeter h' d fl' tr' po' T' re' ∧ Sm d (d + 2) h h') := by
  have e := H
  have g := H'
  obtain ⟨e0, e1⟩ := H
  obtain ⟨g0, g1⟩ := H'
  refine AM.intro mf_X3_copyFrom (by simp [Value.category]) (Nat.le_of_ble_eq_true rfl) (fun X hl hE hnm hX => ?_)
  subst hl
  subst hE
  show AW X _ _ 0 0 0 [some (.ref d), some (.ref d')] []
  refine aw_aload_n hX dX3_copyFrom_0 rfl ?_
  refine aw_aload_n hX dX3_copyFrom_1 rfl ?_
  refine gt_X3_9 hX dX3_copyFrom_2 (by assumption) (by exact rfl) ?_
  refine pt_X3_9 hX dX3_copyFrom_5 (by assumption) (Nat.le_of_ble_eq_true rfl) ?_
  dsimp only [List.set_cons_zero, List.set_cons_succ]
  have e := e.a0 fl' tr po T
  have g := g.off (a := d) (cO 3 [.int fl', .int tr, .int po, .int (nI T), .ref (d + 1)]) (by omega)
  obtain ⟨e0, e1⟩ := id e
  obtain ⟨g0, g1⟩ := id g
  refine aw_aload_n hX dX3_copyFrom_8 rfl ?_
  refine aw_aload_n hX dX3_copyFrom_9 rfl ?_
  refine gt_X3_15 hX dX3_copyFrom_10 (by assumption) (by exact rfl) ?_
  refine pt_X3_15 hX dX3_copyFrom_13 (by assumption) (Nat.le_of_ble_eq_true rfl) ?_
  dsimp only [List.set_cons_zero, List.set_cons_succ]
  have e := e.a0 fl' tr' po T
  have g := g.off (a := d) (cO 3 [.int fl', .int tr', .int po, .int (nI T), .ref (d + 1)]) (by omega)
  obtain ⟨e0, e1⟩ := id e
  obtain ⟨g0, g1⟩ := id g
  refine aw_aload_n hX dX3_copyFrom_16 rfl ?_
  refine aw_aload_n hX dX3_copyFrom_17 rfl ?_
  refine gt_X3_18 hX dX3_copyFrom_18 (by assumption) (by exact rfl) ?_
  refine pt_X3_18 hX dX3_copyFrom_21 (by assumption) (Nat.le_of_ble_eq_true rfl) ?_
  dsimp only [List.set_cons_zero, List.set_cons_succ]
  have e := e.a0 fl' tr' po' T
  have g := g.off (a := d) (cO 3 [.int fl', .int tr', .int po', .int (nI T), .ref (d + 1)]) (by omega)
  obtain ⟨e0, e1⟩ := id e
  obtain ⟨g0, g1⟩ := id g
  refine aw_aload_n hX dX3_copyFrom_24 rfl ?_
  refine aw_aload_n hX dX3_copyFrom_25 rfl ?_
  refine gt_X3_21 hX dX3_copyFrom_26 (by assumption) (by exact rfl) ?_
  refine pt_X3_21 hX dX3_copyFrom_29 (by assumption) (Nat.le_of_ble_eq_true rfl) ?_
  dsimp only [List.set_cons_zero, List.set_cons_succ]
  have e := e.a0 fl' tr' po' T'
  have g := g.off (a := d) (cO 3 [.int fl', .int tr', .int po', .int (nI T'), .ref (d + 1)]) (by omega)
  obtain ⟨e0, e1⟩ := id e
  obtain ⟨g0, g1⟩ := id g
  refine aw_aload_n hX dX3_copyFrom_32 rfl ?_
  refine gt_X3_24 hX dX3_copyFrom_33 (by assumption) (by exact rfl) ?_
  refine aw_aload_n hX dX3_copyFrom_36 rfl ?_
  refine gt_X3_24 hX dX3_copyFrom_37 (by assumption) (by exact rfl) ?_
  refine aw_callSN0 hX RX3 "FlipBoard" rfl (tX9_copy _ _ _ g1 e1 (by decide)) rfl mf_X9_copy mt_X9_copy kl_X3_28 rfl (by decide) (Nat.le_of_ble_eq_true rfl) dX3_copyFrom_40 (by decide) (fun v_40 h_40 p_40 => ?_)
  obtain ⟨rfl, rfl⟩ := p_40
  have e := e.a1 re'
  exact aw_vret hX rfl rfl rfl rfl dX3_copyFrom_43 (by exact ⟨rfl, e, by repeat first | exact Sm.rf | refine Sm.set ?_ (by omega) (by omega)⟩)
theorem tX3_renew (l : Launch) (E : EV) (n : Nat) (H : HMeter h d fl tr po T re) : MX3_renew l E n h [.ref d] (fun v h' => v = none ∧ HMeter h' d 0 0 0 0 (fun _ => 0) ∧ Sm d (d + 2) h h') := by
  have e := H
  obtain ⟨e0, e1⟩ := H
  refine AM.intro mf_X3_renew (by simp [Value.category]) (Nat.le_of_ble_eq_true rfl) (fun X hl hE hnm hX => ?_)
  subst hl
  subst hE
  show AW X _ _ 0 0 0 [some (.ref d)] []
  refine aw_aload_n hX dX3_renew_0 rfl ?_
  refine aw_iconst hX (0) dX3_renew_1 (by decide) ?_
  refine pt_X3_9 hX dX3_renew_2 (by assumption) (Nat.le_of_ble_eq_true rfl) ?_
  dsimp only [List.set_cons_zero, List.set_cons_succ]
  have e := e.a0 0 tr po T
  obtain ⟨e0, e1⟩ := id e
  refine aw_aload_n hX dX3_renew_5 rfl ?_
  refine aw_iconst hX (0) dX3_renew_6 (by decide) ?_
  refine pt_X3_15 hX dX3_renew_7 (by assumption) (Nat.le_of_ble_eq_true rfl) ?_
  dsimp only [List.set_cons_zero, List.set_cons_succ]
  have e := e.a0 0 0 po T
  obtain ⟨e0, e1⟩ := id e
  refine aw_aload_n hX dX3_renew_10 rfl ?_
  refine aw_iconst hX (0) dX3_renew_11 (by decide) ?_
  refine pt_X3_18 hX dX3_renew_12 (by assumption) (Nat.le_of_ble_eq_true rfl) ?_
  dsimp only [List.set_cons_zero, List.set_cons_succ]
  have e := e.a0 0 0 0 T
  obtain ⟨e0, e1⟩ := id e
  refine aw_aload_n hX dX3_renew_15 rfl ?_
  refine aw_iconst hX (0) dX3_renew_16 (by decide) ?_
  refine pt_X3_21 hX dX3_renew_17 (by assumption) (Nat.le_of_ble_eq_true rfl) ?_
  dsimp only [List.set_cons_zero, List.set_cons_succ]
  have e := e.a0 0 0 0 0
  obtain ⟨e0, e1⟩ := id e
  refine aw_aload_n hX dX3_renew_20 rfl ?_
  refine gt_X3_24 hX dX3_renew_21 (by assumption) (by exact rfl) ?_
  refine aw_iconst hX (0) dX3_renew_24 (by decide) ?_
  refine aw_callS0 hX RX3 rfl (tJ7_fill _ _ _ e1 (by decide) 0) rfl mf_J7_fill_53178 mt_J7_fill_53178 kl_X3_32 rfl (by decide) (Nat.le_of_ble_eq_true rfl) dX3_renew_25 (by decide) (fun v_25 h_25 p_25 => ?_)
  obtain ⟨rfl, rfl⟩ := p_25
  have e := e.a1 (fun _ => 0)
  exact aw_vret hX rfl rfl rfl rfl dX3_renew_28 (by exact ⟨rfl, e, by repeat first | exact Sm.rf | refine Sm.set ?_ (by omega) (by omega)⟩)
theorem tX3_addSecond (l : Launch) (E : EV) (n : Nat) (H : HMeter h d fl tr po T re) (hT : T < 2 ^ 30) (u : Int32) : MX3_addSecond l E n h [.ref d, .int u] (fun v h' => v = none ∧ HMeter h' d fl tr (po + u) (T + 1) (upd re (T % 20) u) ∧ Sm d (d + 2) h h') := by
  have e := H
  obtain ⟨e0, e1⟩ := H
  refine AM.intro mf_X3_addSecond (by simp [Value.category]) (Nat.le_of_ble_eq_true rfl) (fun X hl hE hnm hX => ?_)
  subst hl
  subst hE
  show AW X _ _ 0 0 0 [some (.ref d), some (.int u)] []
  refine aw_aload_n hX dX3_addSecond_0 rfl ?_
  refine gt_X3_24 hX dX3_addSecond_1 (by assumption) (by exact rfl) ?_
  refine aw_aload_n hX dX3_addSecond_4 rfl ?_
  refine gt_X3_21 hX dX3_addSecond_5 (by assumption) (by exact rfl) ?_
  refine aw_bipush hX (20) dX3_addSecond_8 (by decide) ?_
  refine aw_callSp hX RX3 rfl (tJ9_floorMod _ _ _ _ (a := T) (b := 20) (by omega) (by decide) (by decide)) rfl mf_J9_floorMod_7cf53 mt_J9_floorMod_7cf53 kl_X3_38 rfl (by decide) (Nat.le_of_ble_eq_true rfl) dX3_addSecond_10 (by decide) ?_
  refine aw_iload_n hX dX3_addSecond_13 rfl ?_
  refine aw_iastN hX (T % 20) (by assumption) rfl (Nat.mod_lt _ (by decide)) (by first | decide | assumption) dX3_addSecond_14 ?_
  have e := e.a1 (upd re (T % 20) u)
  obtain ⟨e0, e1⟩ := id e
  refine aw_aload_n hX dX3_addSecond_15 rfl ?_
  refine aw_dup hX dX3_addSecond_16 rfl ?_
  refine gt_X3_21 hX dX3_addSecond_17 (by assumption) (by exact rfl) ?_
  refine aw_iconst hX (1) dX3_addSecond_20 (by decide) ?_
  refine aw_iadd hX dX3_addSecond_21 ?_
  rw [nI_1]
  refine pt_X3_21 hX dX3_addSecond_22 (by assumption) (Nat.le_of_ble_eq_true rfl) ?_
  dsimp only [List.set_cons_zero, List.set_cons_succ]
  have e := e.a0 fl tr po (T + 1)
  obtain ⟨e0, e1⟩ := id e
  refine aw_aload_n hX dX3_addSecond_25 rfl ?_
  refine aw_dup hX dX3_addSecond_26 rfl ?_
  refine gt_X3_18 hX dX3_addSecond_27 (by assumption) (by exact rfl) ?_
  refine aw_iload_n hX dX3_addSecond_30 rfl ?_
  refine aw_iadd hX dX3_addSecond_31 ?_
  refine pt_X3_18 hX dX3_addSecond_32 (by assumption) (Nat.le_of_ble_eq_true rfl) ?_
  dsimp only [List.set_cons_zero, List.set_cons_succ]
  have e := e.a0 fl tr (po + u) (T + 1)
  exact aw_vret hX rfl rfl rfl rfl dX3_addSecond_35 (by exact ⟨rfl, e, by repeat first | exact Sm.rf | refine Sm.set ?_ (by omega) (by omega)⟩)
theorem tX3_powerOf (l : Launch) (E : EV) (n : Nat) (H : HMeter h d fl tr po T re) (hT : T < 2 ^ 30) {g : Nat} (hg : g ≤ T) : MX3_powerOf l E n h [.ref d, .int (nI g)] (PR (.int (re ((T - g) % 20))) h) := by
  obtain ⟨e0, e1⟩ := H
  refine AM.intro mf_X3_powerOf (by simp [Value.category]) (Nat.le_of_ble_eq_true rfl) (fun X hl hE hnm hX => ?_)
  subst hl
  subst hE
  show AW X _ _ 0 0 0 [some (.ref d), some (.int (nI g))] []
  refine aw_aload_n hX dX3_powerOf_0 rfl ?_
  refine gt_X3_24 hX dX3_powerOf_1 (by assumption) (by exact rfl) ?_
  refine aw_aload_n hX dX3_powerOf_4 rfl ?_
  refine gt_X3_21 hX dX3_powerOf_5 (by assumption) (by exact rfl) ?_
  refine aw_iload_n hX dX3_powerOf_8 rfl ?_
  refine aw_isub hX dX3_powerOf_9 ?_
  rw [pk_sub hg]
  refine aw_bipush hX (20) dX3_powerOf_10 (by decide) ?_
  refine aw_callSp hX RX3 rfl (tJ9_floorMod _ _ _ _ (a := T - g) (b := 20) (by omega) (by decide) (by decide)) rfl mf_J9_floorMod_7cf53 mt_J9_floorMod_7cf53 kl_X3_38 rfl (by decide) (Nat.le_of_ble_eq_true rfl) dX3_powerOf_12 (by decide) ?_
  refine aw_ialdN hX ((T - g) % 20) (by assumption) rfl (Nat.mod_lt _ (by decide)) (by first | decide | assumption) dX3_powerOf_15 ?_
  exact aw_iret hX rfl rfl rfl rfl dX3_powerOf_16 (by exact ⟨rfl, rfl⟩)
end METER
def HScript (h : HP) (d : Nat) (co : IF) (wd cr ln : Nat → Nat) (K : Nat) : Prop :=
  h d = some (cO 7 [.ref (d + 1), .ref (d + 2), .ref (d + 3), .ref (d + 4), .int (nI K)]) ∧ h (d + 1) = some (cI 130 co) ∧ h (d + 2) = some (cI 26 (nF wd)) ∧ h (d + 3) = some (cI 96 (nF cr)) ∧ h (d + 4) = some (cI 8 (nF ln))
def wF (wd : Nat → Nat) (c : Nat) : Nat := if c = 26 then 2 else wd c
def cF (co : IF) (c i : Nat) : Int32 := if c = 26 then 0 else co (c * 5 + i)
section SCRIPT
variable {h : HP} {d : Nat} {co : IF} {wd cr ln : Nat → Nat} {K : Nat}
theorem HScript.sm {h' : HP} {lo hi : Nat} (H : HScript h d co wd cr ln K) (s : Sm lo hi h h') (hq : hi ≤ d ∨ d + 5 ≤ lo) : HScript h' d co wd cr ln K :=
  ⟨(s.at (by omega)).trans H.1, (s.at (by omega)).trans H.2.1, (s.at (by omega)).trans H.2.2.1, (s.at (by omega)).trans H.2.2.2.1, (s.at (by omega)).trans H.2.2.2.2⟩
theorem HScript.off (H : HScript h d co wd cr ln K) {a : Nat} (c : AC) (ha : a < d ∨ d + 5 ≤ a) : HScript (hset h a c) d co wd cr ln K :=
  H.sm (lo := a) (hi := a + 1) (Sm.rf.set (Nat.le_refl _) (Nat.lt_succ_self _)) (by omega)
theorem HScript.a0 (H : HScript h d co wd cr ln K) (K' : Nat) : HScript (hset h d (cO 7 [.ref (d + 1), .ref (d + 2), .ref (d + 3), .ref (d + 4), .int (nI K')])) d co wd cr ln K' :=
  ⟨hset_eq _ _ _, (hset_ne _ _ (by omega)).trans H.2.1, (hset_ne _ _ (by omega)).trans H.2.2.1, (hset_ne _ _ (by omega)).trans H.2.2.2.1, (hset_ne _ _ (by omega)).trans H.2.2.2.2⟩
theorem HScript.a1 (H : HScript h d co wd cr ln K) (f : IF) : HScript (hset h (d + 1) (cI 130 f)) d f wd cr ln K :=
  ⟨(hset_ne _ _ (by omega)).trans H.1, hset_eq _ _ _, (hset_ne _ _ (by omega)).trans H.2.2.1, (hset_ne _ _ (by omega)).trans H.2.2.2.1, (hset_ne _ _ (by omega)).trans H.2.2.2.2⟩
theorem HScript.a2 (H : HScript h d co wd cr ln K) (f : Nat → Nat) : HScript (hset h (d + 2) (cI 26 (nF f))) d co f cr ln K :=
  ⟨(hset_ne _ _ (by omega)).trans H.1, (hset_ne _ _ (by omega)).trans H.2.1, hset_eq _ _ _, (hset_ne _ _ (by omega)).trans H.2.2.2.1, (hset_ne _ _ (by omega)).trans H.2.2.2.2⟩
theorem HScript.a3 (H : HScript h d co wd cr ln K) (f : Nat → Nat) : HScript (hset h (d + 3) (cI 96 (nF f))) d co wd f ln K :=
  ⟨(hset_ne _ _ (by omega)).trans H.1, (hset_ne _ _ (by omega)).trans H.2.1, (hset_ne _ _ (by omega)).trans H.2.2.1, hset_eq _ _ _, (hset_ne _ _ (by omega)).trans H.2.2.2.2⟩
theorem HScript.a4 (H : HScript h d co wd cr ln K) (f : Nat → Nat) : HScript (hset h (d + 4) (cI 8 (nF f))) d co wd cr f K :=
  ⟨(hset_ne _ _ (by omega)).trans H.1, (hset_ne _ _ (by omega)).trans H.2.1, (hset_ne _ _ (by omega)).trans H.2.2.1, (hset_ne _ _ (by omega)).trans H.2.2.2.1, hset_eq _ _ _⟩
theorem tX7_copyFrom (l : Launch) (E : EV) (n : Nat) {d' : Nat} {co' : IF} {wd' cr' ln' : Nat → Nat} {K' : Nat} (H : HScript h d co wd cr ln K) (H' : HScript h d' co' wd' cr' ln' K') (hd : d + 5 ≤ d' ∨ d' + 5 ≤ d) : MX7_copyFrom l E n h [.ref d, .ref d'] (fun v h' => v = none ∧ HScript h' d co' wd' cr' ln' K' ∧ Sm d (d + 5) h h') := by
  have e := H
  have g := H'
  obtain ⟨e0, e1, e2, e3, e4⟩ := H
  obtain ⟨g0, g1, g2, g3, g4⟩ := H'
  refine AM.intro mf_X7_copyFrom (by simp [Value.category]) (Nat.le_of_ble_eq_true rfl) (fun X hl hE hnm hX => ?_)
  subst hl
  subst hE
  show AW X _ _ 0 0 0 [some (.ref d), some (.ref d')] []
  refine aw_aload_n hX dX7_copyFrom_0 rfl ?_
  refine gt_X7_9 hX dX7_copyFrom_1 (by assumption) (by exact rfl) ?_
  refine aw_aload_n hX dX7_copyFrom_4 rfl ?_
  refine gt_X7_9 hX dX7_copyFrom_5 (by assumption) (by exact rfl) ?_
  refine aw_callSN0 hX RX7 "FlipBoard" rfl (tX9_copy _ _ _ g1 e1 (by decide)) rfl mf_X9_copy mt_X9_copy kl_X7_28 rfl (by decide) (Nat.le_of_ble_eq_true rfl) dX7_copyFrom_8 (by decide) (fun v_8 h_8 p_8 => ?_)
  obtain ⟨rfl, rfl⟩ := p_8
  have e := e.a1 co'
  have g := g.off (a := d + 1) (cI 130 co') (by omega)
  obtain ⟨e0, e1, e2, e3, e4⟩ := id e
  obtain ⟨g0, g1, g2, g3, g4⟩ := id g
  refine aw_aload_n hX dX7_copyFrom_11 rfl ?_
  refine gt_X7_15 hX dX7_copyFrom_12 (by assumption) (by exact rfl) ?_
  refine aw_aload_n hX dX7_copyFrom_15 rfl ?_
  refine gt_X7_15 hX dX7_copyFrom_16 (by assumption) (by exact rfl) ?_
  refine aw_callSN0 hX RX7 "FlipBoard" rfl (tX9_copy _ _ _ g2 e2 (by decide)) rfl mf_X9_copy mt_X9_copy kl_X7_28 rfl (by decide) (Nat.le_of_ble_eq_true rfl) dX7_copyFrom_19 (by decide) (fun v_19 h_19 p_19 => ?_)
  obtain ⟨rfl, rfl⟩ := p_19
  have e := e.a2 wd'
  have g := g.off (a := d + 2) (cI 26 (nF wd')) (by omega)
  obtain ⟨e0, e1, e2, e3, e4⟩ := id e
  obtain ⟨g0, g1, g2, g3, g4⟩ := id g
  refine aw_aload_n hX dX7_copyFrom_22 rfl ?_
  refine gt_X7_18 hX dX7_copyFrom_23 (by assumption) (by exact rfl) ?_
  refine aw_aload_n hX dX7_copyFrom_26 rfl ?_
  refine gt_X7_18 hX dX7_copyFrom_27 (by assumption) (by exact rfl) ?_
  refine aw_callSN0 hX RX7 "FlipBoard" rfl (tX9_copy _ _ _ g3 e3 (by decide)) rfl mf_X9_copy mt_X9_copy kl_X7_28 rfl (by decide) (Nat.le_of_ble_eq_true rfl) dX7_copyFrom_30 (by decide) (fun v_30 h_30 p_30 => ?_)
  obtain ⟨rfl, rfl⟩ := p_30
  have e := e.a3 cr'
  have g := g.off (a := d + 3) (cI 96 (nF cr')) (by omega)
  obtain ⟨e0, e1, e2, e3, e4⟩ := id e
  obtain ⟨g0, g1, g2, g3, g4⟩ := id g
  refine aw_aload_n hX dX7_copyFrom_33 rfl ?_
  refine gt_X7_21 hX dX7_copyFrom_34 (by assumption) (by exact rfl) ?_
  refine aw_aload_n hX dX7_copyFrom_37 rfl ?_
  refine gt_X7_21 hX dX7_copyFrom_38 (by assumption) (by exact rfl) ?_
  refine aw_callSN0 hX RX7 "FlipBoard" rfl (tX9_copy _ _ _ g4 e4 (by decide)) rfl mf_X9_copy mt_X9_copy kl_X7_28 rfl (by decide) (Nat.le_of_ble_eq_true rfl) dX7_copyFrom_41 (by decide) (fun v_41 h_41 p_41 => ?_)
  obtain ⟨rfl, rfl⟩ := p_41
  have e := e.a4 ln'
  have g := g.off (a := d + 4) (cI 8 (nF ln')) (by omega)
  obtain ⟨e0, e1, e2, e3, e4⟩ := id e
  obtain ⟨g0, g1, g2, g3, g4⟩ := id g
  refine aw_aload_n hX dX7_copyFrom_44 rfl ?_
  refine aw_aload_n hX dX7_copyFrom_45 rfl ?_
  refine gt_X7_24 hX dX7_copyFrom_46 (by assumption) (by exact rfl) ?_
  refine pt_X7_24 hX dX7_copyFrom_49 (by assumption) (Nat.le_of_ble_eq_true rfl) ?_
  dsimp only [List.set_cons_zero, List.set_cons_succ]
  have e := e.a0 K'
  exact aw_vret hX rfl rfl rfl rfl dX7_copyFrom_52 (by exact ⟨rfl, e, by repeat first | exact Sm.rf | refine Sm.set ?_ (by omega) (by omega)⟩)
theorem tX7_isLetter (l : Launch) (E : EV) (n : Nat) (h : HP) (d : Nat) (c : Int32) : MX7_isLetter l E n h [.ref d, .int c] (PR (.int (bI (0 ≤ c ∧ c < 26))) h) := by
  refine AM.intro mf_X7_isLetter (by simp [Value.category]) (Nat.le_of_ble_eq_true rfl) (fun X hl hE hnm hX => ?_)
  subst hl
  subst hE
  show AW X _ _ 0 0 0 [some (.ref d), some (.int c)] []
  refine aw_iload_n hX dX7_isLetter_0 rfl ?_
  refine aw_if_lt hX 14 dX7_isLetter_1 (by decide) (fun c_1 => ?_) (fun c_1 => ?_)
  · refine aw_iconst hX (0) dX7_isLetter_14 (by decide) ?_
    exact aw_zret hX rfl (by first | exact Or.inl rfl | exact Or.inr rfl | assumption) rfl rfl rfl dX7_isLetter_15 (by first | exact prT (by simp only [bI_eq0, Decidable.not_not, Int32.lt_iff_toInt_lt, Int32.le_iff_toInt_le, Int32.reduceToInt] at c_1 ⊢; omega) | exact prF (by simp only [bI_eq0, Decidable.not_not, Int32.lt_iff_toInt_lt, Int32.le_iff_toInt_le, Int32.reduceToInt] at c_1 ⊢; omega))
  · refine aw_iload_n hX dX7_isLetter_4 rfl ?_
    refine aw_bipush hX (26) dX7_isLetter_5 (by decide) ?_
    refine aw_icmp_ge hX 14 dX7_isLetter_7 (by decide) (fun c_7 => ?_) (fun c_7 => ?_)
    · refine aw_iconst hX (0) dX7_isLetter_14 (by decide) ?_
      exact aw_zret hX rfl (by first | exact Or.inl rfl | exact Or.inr rfl | assumption) rfl rfl rfl dX7_isLetter_15 (by first | exact prT (by simp only [bI_eq0, Decidable.not_not, Int32.lt_iff_toInt_lt, Int32.le_iff_toInt_le, Int32.reduceToInt] at c_1 c_7 ⊢; omega) | exact prF (by simp only [bI_eq0, Decidable.not_not, Int32.lt_iff_toInt_lt, Int32.le_iff_toInt_le, Int32.reduceToInt] at c_1 c_7 ⊢; omega))
    · refine aw_iconst hX (1) dX7_isLetter_10 (by decide) ?_
      refine aw_goto hX 15 dX7_isLetter_11 (by decide) ?_
      exact aw_zret hX rfl (by first | exact Or.inl rfl | exact Or.inr rfl | assumption) rfl rfl rfl dX7_isLetter_15 (by first | exact prT (by simp only [bI_eq0, Decidable.not_not, Int32.lt_iff_toInt_lt, Int32.le_iff_toInt_le, Int32.reduceToInt] at c_1 c_7 ⊢; omega) | exact prF (by simp only [bI_eq0, Decidable.not_not, Int32.lt_iff_toInt_lt, Int32.le_iff_toInt_le, Int32.reduceToInt] at c_1 c_7 ⊢; omega))
theorem tX7_isLetterIn (l : Launch) (E : EV) (n : Nat) (h : HP) (d : Nat) {c : Nat} (hc : c < 26) : MX7_isLetter l E n h [.ref d, .int (nI c)] (PR (.int 1) h) := by
  have t := tX7_isLetter l E n h d (nI c)
  rw [bI_t ⟨nI_pos' (by omega), nI_lt hc (by decide)⟩] at t
  exact t
theorem tX7_isLetterOut (l : Launch) (E : EV) (n : Nat) (h : HP) (d : Nat) : MX7_isLetter l E n h [.ref d, .int (nI 26)] (PR (.int 0) h) := by
  have t := tX7_isLetter l E n h d (nI 26)
  rw [bI_f (by decide)] at t
  exact t
theorem tX7_hasMessage (l : Launch) (E : EV) (n : Nat) (H : HScript h d co wd cr ln K) (m : Int32) : MX7_hasMessage l E n h [.ref d, .int m] (PR (.int (bI (0 ≤ m ∧ m < nI K ∧ m < 8))) h) := by
  obtain ⟨e0, e1, e2, e3, e4⟩ := H
  refine AM.intro mf_X7_hasMessage (by simp [Value.category]) (Nat.le_of_ble_eq_true rfl) (fun X hl hE hnm hX => ?_)
  subst hl
  subst hE
  show AW X _ _ 0 0 0 [some (.ref d), some (.int m)] []
  refine aw_iload_n hX dX7_hasMessage_0 rfl ?_
  refine aw_if_lt hX 22 dX7_hasMessage_1 (by decide) (fun c_1 => ?_) (fun c_1 => ?_)
  · refine aw_iconst hX (0) dX7_hasMessage_22 (by decide) ?_
    exact aw_zret hX rfl (by first | exact Or.inl rfl | exact Or.inr rfl | assumption) rfl rfl rfl dX7_hasMessage_23 (by first | exact prT (by simp only [bI_eq0, Decidable.not_not, Int32.lt_iff_toInt_lt, Int32.le_iff_toInt_le, Int32.reduceToInt] at c_1 ⊢; omega) | exact prF (by simp only [bI_eq0, Decidable.not_not, Int32.lt_iff_toInt_lt, Int32.le_iff_toInt_le, Int32.reduceToInt] at c_1 ⊢; omega))
  · refine aw_iload_n hX dX7_hasMessage_4 rfl ?_
    refine aw_aload_n hX dX7_hasMessage_5 rfl ?_
    refine gt_X7_24 hX dX7_hasMessage_6 (by assumption) (by exact rfl) ?_
    refine aw_icmp_ge hX 22 dX7_hasMessage_9 (by decide) (fun c_9 => ?_) (fun c_9 => ?_)
    · refine aw_iconst hX (0) dX7_hasMessage_22 (by decide) ?_
      exact aw_zret hX rfl (by first | exact Or.inl rfl | exact Or.inr rfl | assumption) rfl rfl rfl dX7_hasMessage_23 (by first | exact prT (by simp only [bI_eq0, Decidable.not_not, Int32.lt_iff_toInt_lt, Int32.le_iff_toInt_le, Int32.reduceToInt] at c_1 c_9 ⊢; omega) | exact prF (by simp only [bI_eq0, Decidable.not_not, Int32.lt_iff_toInt_lt, Int32.le_iff_toInt_le, Int32.reduceToInt] at c_1 c_9 ⊢; omega))
    · refine aw_iload_n hX dX7_hasMessage_12 rfl ?_
      refine aw_bipush hX (8) dX7_hasMessage_13 (by decide) ?_
      refine aw_icmp_ge hX 22 dX7_hasMessage_15 (by decide) (fun c_15 => ?_) (fun c_15 => ?_)
      · refine aw_iconst hX (0) dX7_hasMessage_22 (by decide) ?_
        exact aw_zret hX rfl (by first | exact Or.inl rfl | exact Or.inr rfl | assumption) rfl rfl rfl dX7_hasMessage_23 (by first | exact prT (by simp only [bI_eq0, Decidable.not_not, Int32.lt_iff_toInt_lt, Int32.le_iff_toInt_le, Int32.reduceToInt] at c_1 c_9 c_15 ⊢; omega) | exact prF (by simp only [bI_eq0, Decidable.not_not, Int32.lt_iff_toInt_lt, Int32.le_iff_toInt_le, Int32.reduceToInt] at c_1 c_9 c_15 ⊢; omega))
      · refine aw_iconst hX (1) dX7_hasMessage_18 (by decide) ?_
        refine aw_goto hX 23 dX7_hasMessage_19 (by decide) ?_
        exact aw_zret hX rfl (by first | exact Or.inl rfl | exact Or.inr rfl | assumption) rfl rfl rfl dX7_hasMessage_23 (by first | exact prT (by simp only [bI_eq0, Decidable.not_not, Int32.lt_iff_toInt_lt, Int32.le_iff_toInt_le, Int32.reduceToInt] at c_1 c_9 c_15 ⊢; omega) | exact prF (by simp only [bI_eq0, Decidable.not_not, Int32.lt_iff_toInt_lt, Int32.le_iff_toInt_le, Int32.reduceToInt] at c_1 c_9 c_15 ⊢; omega))
theorem tX7_hasMessageIn (l : Launch) (E : EV) (n : Nat) (H : HScript h d co wd cr ln K) {m : Nat} (hm : m < K) (hK : K ≤ 8) : MX7_hasMessage l E n h [.ref d, .int (nI m)] (PR (.int 1) h) := by
  have t := tX7_hasMessage l E n H (nI m)
  rw [bI_t ⟨nI_pos' (by omega), nI_lt hm (by omega), nI_lt (a := m) (b := 8) (by omega) (by decide)⟩] at t
  exact t
theorem tX7_lengthOf (l : Launch) (E : EV) (n : Nat) (H : HScript h d co wd cr ln K) {m : Nat} (hm : m < K) (hK : K ≤ 8) : MX7_lengthOf l E n h [.ref d, .int (nI m)] (PR (.int (nI (ln m))) h) := by
  have e := H
  obtain ⟨e0, e1, e2, e3, e4⟩ := H
  refine AM.intro mf_X7_lengthOf (by simp [Value.category]) (Nat.le_of_ble_eq_true rfl) (fun X hl hE hnm hX => ?_)
  subst hl
  subst hE
  show AW X _ _ 0 0 0 [some (.ref d), some (.int (nI m))] []
  refine aw_aload_n hX dX7_lengthOf_0 rfl ?_
  refine aw_iload_n hX dX7_lengthOf_1 rfl ?_
  refine aw_callVp hX RX7 rfl (tX7_hasMessageIn _ _ _ e hm hK) rfl mf_X7_hasMessage mi_X7_hasMessage ms_X7_hasMessage kl_X7_42 (by assumption) rfl rfl (by decide) (Nat.le_of_ble_eq_true rfl) dX7_lengthOf_2 (by decide) ?_
  refine aw_if_eq hX 17 dX7_lengthOf_5 (by decide) (fun c_5 => ?_) (fun c_5 => ?_)
  · exact absurd c_5 (by decide)
  · refine aw_aload_n hX dX7_lengthOf_8 rfl ?_
    refine gt_X7_21 hX dX7_lengthOf_9 (by assumption) (by exact rfl) ?_
    refine aw_iload_n hX dX7_lengthOf_12 rfl ?_
    refine aw_ialdN hX (m) (by assumption) rfl (by omega) (by first | decide | assumption) dX7_lengthOf_13 ?_
    refine aw_goto hX 18 dX7_lengthOf_14 (by decide) ?_
    exact aw_iret hX rfl rfl rfl rfl dX7_lengthOf_18 (by exact ⟨rfl, rfl⟩)
theorem idx12 (m i : Nat) : nI m * 12 + nI i = nI (m * 12 + i) := by
  rw [show (12 : Int32) = nI 12 from rfl, pk_mul, nI_add]
theorem idx5 (m i : Nat) : nI m * 5 + nI i = nI (m * 5 + i) := by
  rw [show (5 : Int32) = nI 5 from rfl, pk_mul, nI_add]
theorem tX7_characterOf (l : Launch) (E : EV) (n : Nat) (H : HScript h d co wd cr ln K) {m i : Nat} (hm : m < K) (hK : K ≤ 8) (hi : i < 12) : MX7_characterOf l E n h [.ref d, .int (nI m), .int (nI i)] (PR (.int (nI (cr (m * 12 + i)))) h) := by
  have e := H
  obtain ⟨e0, e1, e2, e3, e4⟩ := H
  refine AM.intro mf_X7_characterOf (by simp [Value.category]) (Nat.le_of_ble_eq_true rfl) (fun X hl hE hnm hX => ?_)
  subst hl
  subst hE
  show AW X _ _ 0 0 0 [some (.ref d), some (.int (nI m)), some (.int (nI i)), none] []
  refine aw_aload_n hX dX7_characterOf_0 rfl ?_
  refine aw_iload_n hX dX7_characterOf_1 rfl ?_
  refine aw_callVp hX RX7 rfl (tX7_hasMessageIn _ _ _ e hm hK) rfl mf_X7_hasMessage mi_X7_hasMessage ms_X7_hasMessage kl_X7_42 (by assumption) rfl rfl (by decide) (Nat.le_of_ble_eq_true rfl) dX7_characterOf_2 (by decide) ?_
  refine aw_if_eq hX 22 dX7_characterOf_5 (by decide) (fun c_5 => ?_) (fun c_5 => ?_)
  · exact absurd c_5 (by decide)
  · refine aw_iload_n hX dX7_characterOf_8 rfl ?_
    refine aw_if_lt hX 22 dX7_characterOf_9 (by decide) (fun c_9 => ?_) (fun c_9 => ?_)
    · exact absurd c_9 (nI_pos (by omega))
    · refine aw_iload_n hX dX7_characterOf_12 rfl ?_
      refine aw_bipush hX (12) dX7_characterOf_13 (by decide) ?_
      refine aw_icmp_ge hX 22 dX7_characterOf_15 (by decide) (fun c_15 => ?_) (fun c_15 => ?_)
      · exact absurd c_15 (nI_ge hi (by decide))
      · refine aw_iconst hX (1) dX7_characterOf_18 (by decide) ?_
        refine aw_goto hX 23 dX7_characterOf_19 (by decide) ?_
        refine aw_istore_n hX dX7_characterOf_23 (Nat.le_of_ble_eq_true rfl) ?_
        refine aw_iload_n hX dX7_characterOf_24 rfl ?_
        refine aw_if_eq hX 42 dX7_characterOf_25 (by decide) (fun c_25 => ?_) (fun c_25 => ?_)
        · exact absurd c_25 (by decide)
        · refine aw_aload_n hX dX7_characterOf_28 rfl ?_
          refine gt_X7_18 hX dX7_characterOf_29 (by assumption) (by exact rfl) ?_
          refine aw_iload_n hX dX7_characterOf_32 rfl ?_
          refine aw_bipush hX (12) dX7_characterOf_33 (by decide) ?_
          refine aw_imul hX dX7_characterOf_35 ?_
          refine aw_iload_n hX dX7_characterOf_36 rfl ?_
          refine aw_iadd hX dX7_characterOf_37 ?_
          refine aw_ialdN hX (m * 12 + i) (by assumption) (idx12 m i) (by omega) (by first | decide | assumption) dX7_characterOf_38 ?_
          refine aw_goto hX 44 dX7_characterOf_39 (by decide) ?_
          exact aw_iret hX rfl rfl rfl rfl dX7_characterOf_44 (by exact ⟨rfl, rfl⟩)
theorem tX7_widthOf (l : Launch) (E : EV) (n : Nat) (H : HScript h d co wd cr ln K) {c : Nat} (hc : c ≤ 26) : MX7_widthOf l E n h [.ref d, .int (nI c)] (PR (.int (nI (wF wd c))) h) := by
  obtain ⟨e0, e1, e2, e3, e4⟩ := H
  by_cases hc2 : c = 26
  · subst hc2
    refine AM.intro mf_X7_widthOf (by simp [Value.category]) (Nat.le_of_ble_eq_true rfl) (fun X hl hE hnm hX => ?_)
    subst hl
    subst hE
    show AW X _ _ 0 0 0 [some (.ref d), some (.int (nI 26))] []
    refine aw_iload_n hX dX7_widthOf_0 rfl ?_
    refine aw_bipush hX (26) dX7_widthOf_1 (by decide) ?_
    refine aw_icmp_ne hX 8 dX7_widthOf_3 (by decide) (fun c_3 => ?_) (fun c_3 => ?_)
    · exact absurd rfl c_3
    · refine aw_iconst hX (2) dX7_widthOf_6 (by decide) ?_
      exact aw_iret hX rfl rfl rfl rfl dX7_widthOf_7 (by exact ⟨rfl, rfl⟩)
  · skip
    refine AM.intro mf_X7_widthOf (by simp [Value.category]) (Nat.le_of_ble_eq_true rfl) (fun X hl hE hnm hX => ?_)
    subst hl
    subst hE
    show AW X _ _ 0 0 0 [some (.ref d), some (.int (nI c))] []
    refine aw_iload_n hX dX7_widthOf_0 rfl ?_
    refine aw_bipush hX (26) dX7_widthOf_1 (by decide) ?_
    refine aw_icmp_ne hX 8 dX7_widthOf_3 (by decide) (fun c_3 => ?_) (fun c_3 => ?_)
    · refine aw_aload_n hX dX7_widthOf_8 rfl ?_
      refine aw_iload_n hX dX7_widthOf_9 rfl ?_
      refine aw_callVp hX RX7 rfl (tX7_isLetterIn _ _ _ _ _ (by omega)) rfl mf_X7_isLetter mi_X7_isLetter ms_X7_isLetter kl_X7_32 (by assumption) rfl rfl (by decide) (Nat.le_of_ble_eq_true rfl) dX7_widthOf_10 (by decide) ?_
      refine aw_if_eq hX 25 dX7_widthOf_13 (by decide) (fun c_13 => ?_) (fun c_13 => ?_)
      · exact absurd c_13 (by decide)
      · refine aw_aload_n hX dX7_widthOf_16 rfl ?_
        refine gt_X7_15 hX dX7_widthOf_17 (by assumption) (by exact rfl) ?_
        refine aw_iload_n hX dX7_widthOf_20 rfl ?_
        refine aw_ialdN hX (c) (by assumption) rfl (by omega) (by first | decide | assumption) dX7_widthOf_21 ?_
        refine aw_goto hX 26 dX7_widthOf_22 (by decide) ?_
        exact aw_iret hX rfl rfl rfl rfl dX7_widthOf_26 (by exact ⟨by rw [wF, if_neg hc2], rfl⟩)
    · exact absurd ((nI_eq (a := c) (b := 26) (by omega) (by decide)).mp c_3) hc2
theorem tX7_columnOf (l : Launch) (E : EV) (n : Nat) (H : HScript h d co wd cr ln K) {c i : Nat} (hc : c ≤ 26) (hi : i < wF wd c) (h5 : wF wd c ≤ 5) : MX7_columnOf l E n h [.ref d, .int (nI c), .int (nI i)] (PR (.int (cF co c i)) h) := by
  obtain ⟨e0, e1, e2, e3, e4⟩ := H
  by_cases hc2 : c = 26
  · subst hc2
    refine AM.intro mf_X7_columnOf (by simp [Value.category]) (Nat.le_of_ble_eq_true rfl) (fun X hl hE hnm hX => ?_)
    subst hl
    subst hE
    show AW X _ _ 0 0 0 [some (.ref d), some (.int (nI 26)), some (.int (nI i)), none] []
    refine aw_aload_n hX dX7_columnOf_0 rfl ?_
    refine aw_iload_n hX dX7_columnOf_1 rfl ?_
    refine aw_callVp hX RX7 rfl (tX7_isLetterOut _ _ _ _ _) rfl mf_X7_isLetter mi_X7_isLetter ms_X7_isLetter kl_X7_32 (by assumption) rfl rfl (by decide) (Nat.le_of_ble_eq_true rfl) dX7_columnOf_2 (by decide) ?_
    refine aw_if_eq hX 31 dX7_columnOf_5 (by decide) (fun c_5 => ?_) (fun c_5 => ?_)
    · refine aw_iconst hX (0) dX7_columnOf_31 (by decide) ?_
      refine aw_istore_n hX dX7_columnOf_32 (Nat.le_of_ble_eq_true rfl) ?_
      refine aw_iload_n hX dX7_columnOf_33 rfl ?_
      refine aw_if_eq hX 50 dX7_columnOf_34 (by decide) (fun c_34 => ?_) (fun c_34 => ?_)
      · refine aw_iconst hX (0) dX7_columnOf_50 (by decide) ?_
        exact aw_iret hX rfl rfl rfl rfl dX7_columnOf_51 (by exact ⟨rfl, rfl⟩)
      · exact absurd rfl c_34
    · exact absurd rfl c_5
  · have hw : wF wd c = wd c := by rw [wF, if_neg hc2]
    rw [hw] at hi h5
    refine AM.intro mf_X7_columnOf (by simp [Value.category]) (Nat.le_of_ble_eq_true rfl) (fun X hl hE hnm hX => ?_)
    subst hl
    subst hE
    show AW X _ _ 0 0 0 [some (.ref d), some (.int (nI c)), some (.int (nI i)), none] []
    refine aw_aload_n hX dX7_columnOf_0 rfl ?_
    refine aw_iload_n hX dX7_columnOf_1 rfl ?_
    refine aw_callVp hX RX7 rfl (tX7_isLetterIn _ _ _ _ _ (by omega)) rfl mf_X7_isLetter mi_X7_isLetter ms_X7_isLetter kl_X7_32 (by assumption) rfl rfl (by decide) (Nat.le_of_ble_eq_true rfl) dX7_columnOf_2 (by decide) ?_
    refine aw_if_eq hX 31 dX7_columnOf_5 (by decide) (fun c_5 => ?_) (fun c_5 => ?_)
    · exact absurd c_5 (by decide)
    · refine aw_iload_n hX dX7_columnOf_8 rfl ?_
      refine aw_if_lt hX 31 dX7_columnOf_9 (by decide) (fun c_9 => ?_) (fun c_9 => ?_)
      · exact absurd c_9 (nI_pos (by omega))
      · refine aw_iload_n hX dX7_columnOf_12 rfl ?_
        refine aw_iconst hX (5) dX7_columnOf_13 (by decide) ?_
        refine aw_icmp_ge hX 31 dX7_columnOf_14 (by decide) (fun c_14 => ?_) (fun c_14 => ?_)
        · exact absurd c_14 (nI_ge (a := i) (b := 5) (by omega) (by decide))
        · refine aw_iload_n hX dX7_columnOf_17 rfl ?_
          refine aw_aload_n hX dX7_columnOf_18 rfl ?_
          refine gt_X7_15 hX dX7_columnOf_19 (by assumption) (by exact rfl) ?_
          refine aw_iload_n hX dX7_columnOf_22 rfl ?_
          refine aw_ialdN hX (c) (by assumption) rfl (by omega) (by first | decide | assumption) dX7_columnOf_23 ?_
          refine aw_icmp_ge hX 31 dX7_columnOf_24 (by decide) (fun c_24 => ?_) (fun c_24 => ?_)
          · exact absurd c_24 (nI_ge hi (by omega))
          · refine aw_iconst hX (1) dX7_columnOf_27 (by decide) ?_
            refine aw_goto hX 32 dX7_columnOf_28 (by decide) ?_
            refine aw_istore_n hX dX7_columnOf_32 (Nat.le_of_ble_eq_true rfl) ?_
            refine aw_iload_n hX dX7_columnOf_33 rfl ?_
            refine aw_if_eq hX 50 dX7_columnOf_34 (by decide) (fun c_34 => ?_) (fun c_34 => ?_)
            · exact absurd c_34 (by decide)
            · refine aw_aload_n hX dX7_columnOf_37 rfl ?_
              refine gt_X7_9 hX dX7_columnOf_38 (by assumption) (by exact rfl) ?_
              refine aw_iload_n hX dX7_columnOf_41 rfl ?_
              refine aw_iconst hX (5) dX7_columnOf_42 (by decide) ?_
              refine aw_imul hX dX7_columnOf_43 ?_
              refine aw_iload_n hX dX7_columnOf_44 rfl ?_
              refine aw_iadd hX dX7_columnOf_45 ?_
              refine aw_ialdN hX (c * 5 + i) (by assumption) (idx5 c i) (by omega) (by first | decide | assumption) dX7_columnOf_46 ?_
              refine aw_goto hX 51 dX7_columnOf_47 (by decide) ?_
              exact aw_iret hX rfl rfl rfl rfl dX7_columnOf_51 (by exact ⟨by rw [cF, if_neg hc2], rfl⟩)
theorem tX7_putColumn (l : Launch) (E : EV) (n : Nat) (H : HScript h d co wd cr ln K) {c i : Nat} (hc : c < 26) (hi : i < 5) (h5 : wd c ≤ 5) (b : Int32) : MX7_putColumn l E n h [.ref d, .int (nI c), .int (nI i), .int b] (fun v h' => v = none ∧ HScript h' d (upd co (c * 5 + i) b) (updN wd c (max (wd c) (i + 1))) cr ln K ∧ Sm d (d + 5) h h') := by
  have e := H
  obtain ⟨e0, e1, e2, e3, e4⟩ := H
  refine AM.intro mf_X7_putColumn (by simp [Value.category]) (Nat.le_of_ble_eq_true rfl) (fun X hl hE hnm hX => ?_)
  subst hl
  subst hE
  show AW X _ _ 0 0 0 [some (.ref d), some (.int (nI c)), some (.int (nI i)), some (.int b)] []
  refine aw_aload_n hX dX7_putColumn_0 rfl ?_
  refine aw_iload_n hX dX7_putColumn_1 rfl ?_
  refine aw_callVp hX RX7 rfl (tX7_isLetterIn _ _ _ _ _ (by omega)) rfl mf_X7_isLetter mi_X7_isLetter ms_X7_isLetter kl_X7_32 (by assumption) rfl rfl (by decide) (Nat.le_of_ble_eq_true rfl) dX7_putColumn_2 (by decide) ?_
  refine aw_if_eq hX 46 dX7_putColumn_5 (by decide) (fun c_5 => ?_) (fun c_5 => ?_)
  · exact absurd c_5 (by decide)
  · refine aw_iload_n hX dX7_putColumn_8 rfl ?_
    refine aw_if_lt hX 46 dX7_putColumn_9 (by decide) (fun c_9 => ?_) (fun c_9 => ?_)
    · exact absurd c_9 (nI_pos (by omega))
    · refine aw_iload_n hX dX7_putColumn_12 rfl ?_
      refine aw_iconst hX (5) dX7_putColumn_13 (by decide) ?_
      refine aw_icmp_ge hX 46 dX7_putColumn_14 (by decide) (fun c_14 => ?_) (fun c_14 => ?_)
      · exact absurd c_14 (nI_ge (a := i) (b := 5) (by omega) (by decide))
      · refine aw_aload_n hX dX7_putColumn_17 rfl ?_
        refine gt_X7_9 hX dX7_putColumn_18 (by assumption) (by exact rfl) ?_
        refine aw_iload_n hX dX7_putColumn_21 rfl ?_
        refine aw_iconst hX (5) dX7_putColumn_22 (by decide) ?_
        refine aw_imul hX dX7_putColumn_23 ?_
        refine aw_iload_n hX dX7_putColumn_24 rfl ?_
        refine aw_iadd hX dX7_putColumn_25 ?_
        refine aw_iload_n hX dX7_putColumn_26 rfl ?_
        refine aw_iastN hX (c * 5 + i) (by assumption) (idx5 c i) (by omega) (by first | decide | assumption) dX7_putColumn_27 ?_
        have e := e.a1 (upd co (c * 5 + i) b)
        obtain ⟨e0, e1, e2, e3, e4⟩ := id e
        refine aw_aload_n hX dX7_putColumn_28 rfl ?_
        refine gt_X7_15 hX dX7_putColumn_29 (by assumption) (by exact rfl) ?_
        refine aw_iload_n hX dX7_putColumn_32 rfl ?_
        refine aw_aload_n hX dX7_putColumn_33 rfl ?_
        refine gt_X7_15 hX dX7_putColumn_34 (by assumption) (by exact rfl) ?_
        refine aw_iload_n hX dX7_putColumn_37 rfl ?_
        refine aw_ialdN hX (c) (by assumption) rfl (by omega) (by first | decide | assumption) dX7_putColumn_38 ?_
        refine aw_iload_n hX dX7_putColumn_39 rfl ?_
        refine aw_iconst hX (1) dX7_putColumn_40 (by decide) ?_
        refine aw_iadd hX dX7_putColumn_41 ?_
        rw [nI_1]
        refine aw_callSp hX RX7 rfl (tJ9_max _ _ _ _ (nI (wd c)) (nI (i + 1))) rfl mf_J9_max_7cf53 mt_J9_max_7cf53 kl_X7_36 rfl (by decide) (Nat.le_of_ble_eq_true rfl) dX7_putColumn_42 (by decide) ?_
        have hm : (if nI (wd c) < nI (i + 1) then nI (i + 1) else nI (wd c)) = nI (max (wd c) (i + 1)) := by by_cases q : wd c < i + 1; (rw [if_pos (nI_lt q (by omega)), Nat.max_eq_right (by omega)]); (rw [if_neg (nI_nlt (by omega) (by omega)), Nat.max_eq_left (by omega)])
        rw [hm]
        refine aw_iastN hX (c) (by assumption) rfl (by omega) (by first | decide | assumption) dX7_putColumn_45 ?_
        rw [upd_nF]
        have e := e.a2 (updN wd c (max (wd c) (i + 1)))
        exact aw_vret hX rfl rfl rfl rfl dX7_putColumn_46 (by exact ⟨rfl, e, by repeat first | exact Sm.rf | refine Sm.set ?_ (by omega) (by omega)⟩)
theorem tX7_startMessage (l : Launch) (E : EV) (n : Nat) (H : HScript h d co wd cr ln K) (hK : K < 8) : MX7_startMessage l E n h [.ref d] (fun v h' => v = none ∧ HScript h' d co wd cr (updN ln K 0) (K + 1) ∧ Sm d (d + 5) h h') := by
  have e := H
  obtain ⟨e0, e1, e2, e3, e4⟩ := H
  refine AM.intro mf_X7_startMessage (by simp [Value.category]) (Nat.le_of_ble_eq_true rfl) (fun X hl hE hnm hX => ?_)
  subst hl
  subst hE
  show AW X _ _ 0 0 0 [some (.ref d)] []
  refine aw_aload_n hX dX7_startMessage_0 rfl ?_
  refine gt_X7_24 hX dX7_startMessage_1 (by assumption) (by exact rfl) ?_
  refine aw_if_lt hX 36 dX7_startMessage_4 (by decide) (fun c_4 => ?_) (fun c_4 => ?_)
  · exact absurd c_4 (nI_pos (by omega))
  · refine aw_aload_n hX dX7_startMessage_7 rfl ?_
    refine gt_X7_24 hX dX7_startMessage_8 (by assumption) (by exact rfl) ?_
    refine aw_bipush hX (8) dX7_startMessage_11 (by decide) ?_
    refine aw_icmp_ge hX 36 dX7_startMessage_13 (by decide) (fun c_13 => ?_) (fun c_13 => ?_)
    · exact absurd c_13 (nI_ge (a := K) (b := 8) hK (by decide))
    · refine aw_aload_n hX dX7_startMessage_16 rfl ?_
      refine gt_X7_21 hX dX7_startMessage_17 (by assumption) (by exact rfl) ?_
      refine aw_aload_n hX dX7_startMessage_20 rfl ?_
      refine gt_X7_24 hX dX7_startMessage_21 (by assumption) (by exact rfl) ?_
      refine aw_iconst hX (0) dX7_startMessage_24 (by decide) ?_
      refine aw_iastN hX (K) (by assumption) rfl hK (by first | decide | assumption) dX7_startMessage_25 ?_
      rw [show (0 : Int32) = nI 0 from rfl, upd_nF]
      have e := e.a4 (updN ln K 0)
      obtain ⟨e0, e1, e2, e3, e4⟩ := id e
      refine aw_aload_n hX dX7_startMessage_26 rfl ?_
      refine aw_dup hX dX7_startMessage_27 rfl ?_
      refine gt_X7_24 hX dX7_startMessage_28 (by assumption) (by exact rfl) ?_
      refine aw_iconst hX (1) dX7_startMessage_31 (by decide) ?_
      refine aw_iadd hX dX7_startMessage_32 ?_
      rw [nI_1]
      refine pt_X7_24 hX dX7_startMessage_33 (by assumption) (Nat.le_of_ble_eq_true rfl) ?_
      dsimp only [List.set_cons_zero, List.set_cons_succ]
      have e := e.a0 (K + 1)
      exact aw_vret hX rfl rfl rfl rfl dX7_startMessage_36 (by exact ⟨rfl, e, by repeat first | exact Sm.rf | refine Sm.set ?_ (by omega) (by omega)⟩)
theorem tX7_addCharacter (l : Launch) (E : EV) (n : Nat) (H : HScript h d co wd cr ln (K + 1)) (hK : K < 8) (hl : ln K < 12) (c : Nat) : MX7_addCharacter l E n h [.ref d, .int (nI c)] (fun v h' => v = none ∧ HScript h' d co wd (updN cr (K * 12 + ln K) c) (updN ln K (ln K + 1)) (K + 1) ∧ Sm d (d + 5) h h') := by
  have e := H
  obtain ⟨e0, e1, e2, e3, e4⟩ := H
  refine AM.intro mf_X7_addCharacter (by simp [Value.category]) (Nat.le_of_ble_eq_true rfl) (fun X hl hE hnm hX => ?_)
  subst hl
  subst hE
  show AW X _ _ 0 0 0 [some (.ref d), some (.int (nI c)), none, none] []
  refine aw_aload_n hX dX7_addCharacter_0 rfl ?_
  refine gt_X7_24 hX dX7_addCharacter_1 (by assumption) (by exact rfl) ?_
  refine aw_iconst hX (1) dX7_addCharacter_4 (by decide) ?_
  refine aw_isub hX dX7_addCharacter_5 ?_
  rw [nI_pred]
  refine aw_istore_n hX dX7_addCharacter_6 (Nat.le_of_ble_eq_true rfl) ?_
  refine aw_aload_n hX dX7_addCharacter_7 rfl ?_
  refine aw_iload_n hX dX7_addCharacter_8 rfl ?_
  refine aw_callVp hX RX7 rfl (tX7_lengthOf _ _ _ e (Nat.lt_succ_self _) (by omega)) rfl mf_X7_lengthOf mi_X7_lengthOf ms_X7_lengthOf kl_X7_45 (by assumption) rfl rfl (by decide) (Nat.le_of_ble_eq_true rfl) dX7_addCharacter_9 (by decide) ?_
  refine aw_istore_n hX dX7_addCharacter_12 (Nat.le_of_ble_eq_true rfl) ?_
  refine aw_aload_n hX dX7_addCharacter_13 rfl ?_
  refine aw_iload_n hX dX7_addCharacter_14 rfl ?_
  refine aw_callVp hX RX7 rfl (tX7_hasMessageIn _ _ _ e (Nat.lt_succ_self _) (by omega)) rfl mf_X7_hasMessage mi_X7_hasMessage ms_X7_hasMessage kl_X7_42 (by assumption) rfl rfl (by decide) (Nat.le_of_ble_eq_true rfl) dX7_addCharacter_15 (by decide) ?_
  refine aw_if_eq hX 52 dX7_addCharacter_18 (by decide) (fun c_18 => ?_) (fun c_18 => ?_)
  · exact absurd c_18 (by decide)
  · refine aw_iload_n hX dX7_addCharacter_21 rfl ?_
    refine aw_if_lt hX 52 dX7_addCharacter_22 (by decide) (fun c_22 => ?_) (fun c_22 => ?_)
    · exact absurd c_22 (nI_pos (by omega))
    · refine aw_iload_n hX dX7_addCharacter_25 rfl ?_
      refine aw_bipush hX (12) dX7_addCharacter_26 (by decide) ?_
      refine aw_icmp_ge hX 52 dX7_addCharacter_28 (by decide) (fun c_28 => ?_) (fun c_28 => ?_)
      · exact absurd c_28 (nI_ge (a := ln K) (b := 12) hl (by decide))
      · refine aw_aload_n hX dX7_addCharacter_31 rfl ?_
        refine gt_X7_18 hX dX7_addCharacter_32 (by assumption) (by exact rfl) ?_
        refine aw_iload_n hX dX7_addCharacter_35 rfl ?_
        refine aw_bipush hX (12) dX7_addCharacter_36 (by decide) ?_
        refine aw_imul hX dX7_addCharacter_38 ?_
        refine aw_iload_n hX dX7_addCharacter_39 rfl ?_
        refine aw_iadd hX dX7_addCharacter_40 ?_
        refine aw_iload_n hX dX7_addCharacter_41 rfl ?_
        refine aw_iastN hX (K * 12 + ln K) (by assumption) (idx12 _ _) (by omega) (by first | decide | assumption) dX7_addCharacter_42 ?_
        rw [upd_nF]
        have e := e.a3 (updN cr (K * 12 + ln K) c)
        obtain ⟨e0, e1, e2, e3, e4⟩ := id e
        refine aw_aload_n hX dX7_addCharacter_43 rfl ?_
        refine gt_X7_21 hX dX7_addCharacter_44 (by assumption) (by exact rfl) ?_
        refine aw_iload_n hX dX7_addCharacter_47 rfl ?_
        refine aw_iload_n hX dX7_addCharacter_48 rfl ?_
        refine aw_iconst hX (1) dX7_addCharacter_49 (by decide) ?_
        refine aw_iadd hX dX7_addCharacter_50 ?_
        rw [nI_1]
        refine aw_iastN hX (K) (by assumption) rfl hK (by first | decide | assumption) dX7_addCharacter_51 ?_
        rw [upd_nF]
        have e := e.a4 (updN ln K (ln K + 1))
        exact aw_vret hX rfl rfl rfl rfl dX7_addCharacter_52 (by exact ⟨rfl, e, by repeat first | exact Sm.rf | refine Sm.set ?_ (by omega) (by omega)⟩)
end SCRIPT
end
section
/-! Script's loops; State; History -/
def shN (a t s : Nat) (f : Nat → Nat) : Nat → Nat := fun q => if a ≤ q ∧ q < t then f (q + s) else f q
theorem shN_0 (a s : Nat) (f : Nat → Nat) : shN a a s f = f := by
  funext q
  rw [shN, if_neg (by omega)]
theorem shN_at {a t s q : Nat} (f : Nat → Nat) (h : t ≤ q) : shN a t s f q = f q := by rw [shN, if_neg (by omega)]
theorem shN_up {a t s : Nat} (f : Nat → Nat) (h : a ≤ t) : updN (shN a t s f) t (f (t + s)) = shN a (t + 1) s f := by
  funext q
  unfold updN shN
  by_cases e : q = t
  · subst e
    rw [if_pos rfl, if_pos ⟨h, Nat.lt_succ_self _⟩]
  · rw [if_neg e]
    by_cases e2 : a ≤ q ∧ q < t
    · rw [if_pos e2, if_pos ⟨e2.1, by omega⟩]
    · rw [if_neg e2, if_neg (by omega)]
def sumN (f : Nat → Nat) : Nat → Nat
  | 0 => 0
  | n + 1 => sumN f n + f n
/-- the columns of a strip -/
def tF (wd : Nat → Nat) (ch : Nat → Nat) (L : Nat) : Nat := L - 1 + sumN (fun k => wF wd (ch k)) L
/-- the bits of a strip's column: what is left of the message, from its character i on -/
def sbF (co : IF) (wd : Nat → Nat) (ch : Nat → Nat) : Nat → Nat → Int → Int32
  | 0, _, _ => 0
  | r + 1, i, z => if z < 0 then 0 else if z < (wF wd (ch i) : Int) then cF co (ch i) z.toNat else sbF co wd ch r (i + 1) (z - ((wF wd (ch i) : Int) + 1))
theorem iI_nn {z : Int} (h : 0 ≤ z) : iI z = nI z.toNat := by
  rw [iI_n, Int.toNat_of_nonneg h]
section SCRIPT2
variable {h : HP} {d : Nat} {co : IF} {wd cr ln : Nat → Nat} {K : Nat}
theorem tX7_dropMessage (l : Launch) (E : EV) (n : Nat) (H : HScript h d co wd cr ln (K + 1)) (hK : K < 8) {m : Nat} (hm : m ≤ K) : MX7_dropMessage l E n h [.ref d, .int (nI m)] (fun v h' => v = none ∧ HScript h' d co wd (shN (m * 12) 84 12 cr) (shN m 7 1 ln) K ∧ Sm d (d + 5) h h') := by
  refine AM.intro mf_X7_dropMessage (by simp [Value.category]) (Nat.le_of_ble_eq_true rfl) (fun X hl hE hnm hX => ?_)
  subst hl
  subst hE
  show AW X _ _ 0 0 0 [some (.ref d), some (.int (nI m)), none, none, none] []
  have loop : ∀ (g p : Nat) (hh : HP) (x y : Option Value), m ≤ p → p ≤ 7 → 7 - p < g → HScript hh d co wd (shN (m * 12) (p * 12) 12 cr) (shN m p 1 ln) (K + 1) → Sm d (d + 5) h hh → AW X n hh 0 0 11 [some (.ref d), some (.int (nI m)), some (.int (nI p)), x, y] [] := by
    intro g
    induction g with
    | zero => intro p hh x y h1 h2 h3; omega
    | succ g ih =>
      intro p hh x y h1 h2 h3 e sm
      have e' := e
      obtain ⟨e0, e1, e2, e3, e4⟩ := e
      have inner : ∀ (g2 i : Nat) (hk : HP) (y : Option Value), p < 7 → i ≤ 12 → 12 - i < g2 → HScript hk d co wd (shN (m * 12) (p * 12 + i) 12 cr) (shN m (p + 1) 1 ln) (K + 1) → Sm d (d + 5) h hk → AW X n hk 0 0 35 [some (.ref d), some (.int (nI m)), some (.int (nI p)), some (.int (nI i)), y] [] := by
        intro g2
        induction g2 with
        | zero => intro i hk y hp k1 k2; omega
        | succ g2 ih2 =>
          intro i hk y hp k1 k2 e sm
          have e' := e
          obtain ⟨e0, e1, e2, e3, e4⟩ := e
          refine aw_iload_n hX dX7_dropMessage_35 rfl ?_
          refine aw_bipush hX (12) dX7_dropMessage_36 (by decide) ?_
          refine aw_icmp_ge hX 75 dX7_dropMessage_38 (by decide) (fun c_38 => ?_) (fun c_38 => ?_)
          · have hi : i = 12 := lp_out k1 (by decide) c_38
            subst hi
            refine aw_iinc hX (nI (p + 1)) dX7_dropMessage_75 rfl (nI_1 p) ?_
            refine aw_goto hX 11 dX7_dropMessage_78 (by decide) ?_
            refine ih (p + 1) hk _ _ (by omega) (by omega) (by omega) ?_ sm
            rw [show (p + 1) * 12 = p * 12 + 12 by omega]
            exact e'
          · have hi : i < 12 := lp_in k1 (by decide) c_38
            refine aw_iload_n hX dX7_dropMessage_41 rfl ?_
            refine aw_iconst hX (1) dX7_dropMessage_42 (by decide) ?_
            refine aw_iadd hX dX7_dropMessage_43 ?_
            rw [nI_1]
            refine aw_bipush hX (12) dX7_dropMessage_44 (by decide) ?_
            refine aw_imul hX dX7_dropMessage_46 ?_
            refine aw_iload_n hX dX7_dropMessage_47 rfl ?_
            refine aw_iadd hX dX7_dropMessage_48 ?_
            rw [idx12]
            refine aw_istore hX dX7_dropMessage_49 (Nat.le_of_ble_eq_true rfl) ?_
            refine aw_aload_n hX dX7_dropMessage_51 rfl ?_
            refine gt_X7_18 hX dX7_dropMessage_52 (by assumption) (by exact rfl) ?_
            refine aw_iload_n hX dX7_dropMessage_55 rfl ?_
            refine aw_bipush hX (12) dX7_dropMessage_56 (by decide) ?_
            refine aw_imul hX dX7_dropMessage_58 ?_
            refine aw_iload_n hX dX7_dropMessage_59 rfl ?_
            refine aw_iadd hX dX7_dropMessage_60 ?_
            refine aw_aload_n hX dX7_dropMessage_61 rfl ?_
            refine gt_X7_18 hX dX7_dropMessage_62 (by assumption) (by exact rfl) ?_
            refine aw_iload hX dX7_dropMessage_65 rfl ?_
            refine aw_ialdN hX ((p + 1) * 12 + i) (by assumption) rfl (by omega) (by first | decide | assumption) dX7_dropMessage_67 ?_
            rw [show nF (shN (m * 12) (p * 12 + i) 12 cr) ((p + 1) * 12 + i) = nI (cr (p * 12 + i + 12)) from congrArg nI ((shN_at cr (by omega)).trans (congrArg cr (by omega)))]
            refine aw_iastN hX (p * 12 + i) (by assumption) (idx12 p i) (by omega) (by first | decide | assumption) dX7_dropMessage_68 ?_
            rw [upd_nF, shN_up cr (by omega)]
            have e' := e'.a3 (shN (m * 12) (p * 12 + i + 1) 12 cr)
            have sm := sm.set (a := d + 3) (c := cI 96 (nF (shN (m * 12) (p * 12 + i + 1) 12 cr))) (by omega) (by omega)
            generalize hset hk (d + 3) (cI 96 (nF (shN (m * 12) (p * 12 + i + 1) 12 cr))) = hk2 at e' sm ⊢
            refine aw_iinc hX (nI (i + 1)) dX7_dropMessage_69 rfl (nI_1 i) ?_
            refine aw_goto hX 35 dX7_dropMessage_72 (by decide) ?_
            exact ih2 (i + 1) hk2 _ hp hi (by omega) e' sm
      refine aw_iload_n hX dX7_dropMessage_11 rfl ?_
      refine aw_iconst hX (1) dX7_dropMessage_12 (by decide) ?_
      refine aw_iadd hX dX7_dropMessage_13 ?_
      rw [nI_1]
      refine aw_bipush hX (8) dX7_dropMessage_14 (by decide) ?_
      refine aw_icmp_ge hX 81 dX7_dropMessage_16 (by decide) (fun c_16 => ?_) (fun c_16 => ?_)
      · have hp : p = 7 := by have := nI_leI (a := 8) (b := p + 1) (by decide) (by omega); have c2 := this.mp c_16; omega
        subst hp
        refine aw_aload_n hX dX7_dropMessage_81 rfl ?_
        refine aw_dup hX dX7_dropMessage_82 rfl ?_
        refine gt_X7_24 hX dX7_dropMessage_83 (by assumption) (by exact rfl) ?_
        refine aw_iconst hX (1) dX7_dropMessage_86 (by decide) ?_
        refine aw_isub hX dX7_dropMessage_87 ?_
        rw [nI_pred]
        refine pt_X7_24 hX dX7_dropMessage_88 (by assumption) (Nat.le_of_ble_eq_true rfl) ?_
        dsimp only [List.set_cons_zero, List.set_cons_succ]
        have e' := e'.a0 K
        exact aw_vret hX rfl rfl rfl rfl dX7_dropMessage_91 (by exact ⟨rfl, e', sm.tr (Sm.rf.set (Nat.le_refl _) (by omega)) (Nat.le_refl _) (Nat.le_refl _)⟩)
      · have hp : p < 7 := by have := nI_leI (a := 8) (b := p + 1) (by decide) (by omega); have c2 : ¬ 8 ≤ p + 1 := fun q => c_16 (this.mpr q); omega
        refine aw_aload_n hX dX7_dropMessage_19 rfl ?_
        refine gt_X7_21 hX dX7_dropMessage_20 (by assumption) (by exact rfl) ?_
        refine aw_iload_n hX dX7_dropMessage_23 rfl ?_
        refine aw_aload_n hX dX7_dropMessage_24 rfl ?_
        refine gt_X7_21 hX dX7_dropMessage_25 (by assumption) (by exact rfl) ?_
        refine aw_iload_n hX dX7_dropMessage_28 rfl ?_
        refine aw_iconst hX (1) dX7_dropMessage_29 (by decide) ?_
        refine aw_iadd hX dX7_dropMessage_30 ?_
        rw [nI_1]
        refine aw_ialdN hX (p + 1) (by assumption) rfl (by omega) (by first | decide | assumption) dX7_dropMessage_31 ?_
        rw [show nF (shN m p 1 ln) (p + 1) = nI (ln (p + 1)) from congrArg nI (shN_at ln (by omega))]
        refine aw_iastN hX (p) (by assumption) rfl (by omega) (by first | decide | assumption) dX7_dropMessage_32 ?_
        rw [upd_nF, shN_up ln h1]
        have e' := e'.a4 (shN m (p + 1) 1 ln)
        have sm := sm.set (a := d + 4) (c := cI 8 (nF (shN m (p + 1) 1 ln))) (by omega) (by omega)
        generalize hset hh (d + 4) (cI 8 (nF (shN m (p + 1) 1 ln))) = hk at e' sm ⊢
        refine aw_iconst hX (0) dX7_dropMessage_33 (by decide) ?_
        refine aw_istore_n hX dX7_dropMessage_34 (Nat.le_of_ble_eq_true rfl) ?_
        exact inner 13 0 hk _ hp (by omega) (by omega) e' sm
  have e0 := H.1
  refine aw_aload_n hX dX7_dropMessage_0 rfl ?_
  refine aw_iload_n hX dX7_dropMessage_1 rfl ?_
  refine aw_callVp hX RX7 rfl (tX7_hasMessageIn _ _ _ H (by omega) (by omega)) rfl mf_X7_hasMessage mi_X7_hasMessage ms_X7_hasMessage kl_X7_42 (by assumption) rfl rfl (by decide) (Nat.le_of_ble_eq_true rfl) dX7_dropMessage_2 (by decide) ?_
  refine aw_if_ne hX 9 dX7_dropMessage_5 (by decide) (fun c_5 => ?_) (fun c_5 => ?_)
  · refine aw_iload_n hX dX7_dropMessage_9 rfl ?_
    refine aw_istore_n hX dX7_dropMessage_10 (Nat.le_of_ble_eq_true rfl) ?_
    exact loop 8 m h _ _ (Nat.le_refl _) (by omega) (by omega) (by rw [shN_0, shN_0]; exact H) Sm.rf
  · exact absurd c_5 (by decide)
theorem tX7_stripColumns (l : Launch) (E : EV) (n : Nat) (H : HScript h d co wd cr ln K) {m : Nat} (hm : m < K) (hK : K ≤ 8) (h1 : 1 ≤ ln m) (h12 : ln m ≤ 12) (hc : ∀ i, i < ln m → cr (m * 12 + i) ≤ 26) : MX7_stripColumns l E n h [.ref d, .int (nI m)] (PR (.int (nI (tF wd (fun k => cr (m * 12 + k)) (ln m)))) h) := by
  have e := H
  obtain ⟨e0, e1, e2, e3, e4⟩ := H
  refine AM.intro mf_X7_stripColumns (by simp [Value.category]) (Nat.le_of_ble_eq_true rfl) (fun X hl hE hnm hX => ?_)
  subst hl
  subst hE
  show AW X _ _ 0 0 0 [some (.ref d), some (.int (nI m)), none, none, none] []
  have loop : ∀ (g j : Nat), j ≤ ln m → ln m - j < g → AW X n h 0 0 17 [some (.ref d), some (.int (nI m)), some (.int (nI (ln m))), some (.int (nI (ln m - 1 + sumN (fun k => wF wd (cr (m * 12 + k))) j))), some (.int (nI j))] [] := by
    intro g
    induction g with
    | zero => intro j h1 h2; omega
    | succ g ih =>
      intro j h3 h4
      refine aw_iload hX dX7_stripColumns_17 rfl ?_
      refine aw_iload_n hX dX7_stripColumns_19 rfl ?_
      refine aw_icmp_ge hX 43 dX7_stripColumns_20 (by decide) (fun c_20 => ?_) (fun c_20 => ?_)
      · have hj : j = ln m := lp_out h3 (by omega) c_20
        subst hj
        refine aw_iload_n hX dX7_stripColumns_43 rfl ?_
        exact aw_iret hX rfl rfl rfl rfl dX7_stripColumns_44 ⟨rfl, rfl⟩
      · have hj : j < ln m := lp_in h3 (by omega) c_20
        refine aw_iload_n hX dX7_stripColumns_23 rfl ?_
        refine aw_aload_n hX dX7_stripColumns_24 rfl ?_
        refine aw_aload_n hX dX7_stripColumns_25 rfl ?_
        refine aw_iload_n hX dX7_stripColumns_26 rfl ?_
        refine aw_iload hX dX7_stripColumns_27 rfl ?_
        refine aw_callVp hX RX7 rfl (tX7_characterOf _ _ _ e hm hK (by omega)) rfl mf_X7_characterOf mi_X7_characterOf ms_X7_characterOf kl_X7_49 (by assumption) rfl rfl (by decide) (Nat.le_of_ble_eq_true rfl) dX7_stripColumns_29 (by decide) ?_
        refine aw_callVp hX RX7 rfl (tX7_widthOf _ _ _ e (hc j hj)) rfl mf_X7_widthOf mi_X7_widthOf ms_X7_widthOf kl_X7_52 (by assumption) rfl rfl (by decide) (Nat.le_of_ble_eq_true rfl) dX7_stripColumns_32 (by decide) ?_
        refine aw_iadd hX dX7_stripColumns_35 ?_
        rw [nI_add, show ln m - 1 + sumN (fun k => wF wd (cr (m * 12 + k))) j + wF wd (cr (m * 12 + j)) = ln m - 1 + sumN (fun k => wF wd (cr (m * 12 + k))) (j + 1) from Nat.add_assoc _ _ _]
        refine aw_istore_n hX dX7_stripColumns_36 (Nat.le_of_ble_eq_true rfl) ?_
        refine aw_iinc hX (nI (j + 1)) dX7_stripColumns_37 rfl (nI_1 j) ?_
        refine aw_goto hX 17 dX7_stripColumns_40 (by decide) ?_
        exact ih (j + 1) hj (by omega)
  refine aw_aload_n hX dX7_stripColumns_0 rfl ?_
  refine aw_iload_n hX dX7_stripColumns_1 rfl ?_
  refine aw_callVp hX RX7 rfl (tX7_lengthOf _ _ _ e hm hK) rfl mf_X7_lengthOf mi_X7_lengthOf ms_X7_lengthOf kl_X7_45 (by assumption) rfl rfl (by decide) (Nat.le_of_ble_eq_true rfl) dX7_stripColumns_2 (by decide) ?_
  refine aw_istore_n hX dX7_stripColumns_5 (Nat.le_of_ble_eq_true rfl) ?_
  refine aw_iload_n hX dX7_stripColumns_6 rfl ?_
  refine aw_iconst hX (1) dX7_stripColumns_7 (by decide) ?_
  refine aw_isub hX dX7_stripColumns_8 ?_
  have hL : nI (ln m) - 1 = nI (ln m - 1) := pk_sub (b := 1) h1
  rw [hL]
  refine aw_iconst hX (0) dX7_stripColumns_9 (by decide) ?_
  refine aw_callSp hX RX7 rfl (tJ9_max _ _ _ _ (nI (ln m - 1)) 0) rfl mf_J9_max_7cf53 mt_J9_max_7cf53 kl_X7_36 rfl (by decide) (Nat.le_of_ble_eq_true rfl) dX7_stripColumns_10 (by decide) ?_
  rw [if_neg (nI_pos (by omega))]
  refine aw_istore_n hX dX7_stripColumns_13 (Nat.le_of_ble_eq_true rfl) ?_
  refine aw_iconst hX (0) dX7_stripColumns_14 (by decide) ?_
  refine aw_istore hX dX7_stripColumns_15 (Nat.le_of_ble_eq_true rfl) ?_
  exact loop (ln m + 1) 0 (by omega) (by omega)
theorem tX7_stripBits (l : Launch) (E : EV) (n : Nat) (H : HScript h d co wd cr ln K) {m : Nat} (hm : m < K) (hK : K ≤ 8) (h12 : ln m ≤ 12) (hc : ∀ i, i < ln m → cr (m * 12 + i) ≤ 26) (hw : ∀ c, c < 26 → wd c ≤ 5) {z : Int} (hz1 : -1000 ≤ z) (hz2 : z ≤ 1000) : MX7_stripBits l E n h [.ref d, .int (nI m), .int (iI z)] (PR (.int (sbF co wd (fun k => cr (m * 12 + k)) (ln m) 0 z)) h) := by
  have e := H
  obtain ⟨e0, e1, e2, e3, e4⟩ := H
  have hwF : ∀ c, c ≤ 26 → wF wd c ≤ 5 := fun c hc => by
    unfold wF
    split
    · decide
    · exact hw c (by omega)
  refine AM.intro mf_X7_stripBits (by simp [Value.category]) (Nat.le_of_ble_eq_true rfl) (fun X hl hE hnm hX => ?_)
  subst hl
  subst hE
  show AW X _ _ 0 0 0 [some (.ref d), some (.int (nI m)), some (.int (iI z)), none, none, none, none] []
  have loop : ∀ (r i : Nat) (y : Int) (a b : Option Value), i + r = ln m → -1000 ≤ y → y ≤ 1000 → sbF co wd (fun k => cr (m * 12 + k)) (ln m) 0 z = sbF co wd (fun k => cr (m * 12 + k)) r i y → AW X n h 0 0 5 [some (.ref d), some (.int (nI m)), some (.int (iI z)), some (.int (iI y)), some (.int (nI i)), a, b] [] := by
    intro r
    induction r with
    | zero =>
      intro i y a b h1 h2 h3 h4
      rw [sbF] at h4
      refine aw_iload hX dX7_stripBits_5 rfl ?_
      refine aw_aload_n hX dX7_stripBits_7 rfl ?_
      refine aw_iload_n hX dX7_stripBits_8 rfl ?_
      refine aw_callVp hX RX7 rfl (tX7_lengthOf _ _ _ e hm hK) rfl mf_X7_lengthOf mi_X7_lengthOf ms_X7_lengthOf kl_X7_45 (by assumption) rfl rfl (by decide) (Nat.le_of_ble_eq_true rfl) dX7_stripBits_9 (by decide) ?_
      refine aw_icmp_ge hX 63 dX7_stripBits_12 (by decide) (fun c_12 => ?_) (fun c_12 => ?_)
      · refine aw_iconst hX (0) dX7_stripBits_63 (by decide) ?_
        exact aw_iret hX rfl rfl rfl rfl dX7_stripBits_64 (by exact ⟨by rw [h4], rfl⟩)
      · exact absurd (nI_le (a := ln m) (b := i) (by omega) (by omega)) c_12
    | succ r ih =>
      intro i y a b h1 h2 h3 h4
      have hi : i < ln m := by omega
      have hy0 : iI y < 0 ↔ y < 0 := iI_lt (b := 0) (by omega) (by omega) (by decide) (by decide)
      have hw5 := hwF _ (hc i hi)
      have hyw : iI y < nI (wF wd (cr (m * 12 + i))) ↔ y < (wF wd (cr (m * 12 + i)) : Int) := by
        rw [iI_n]
        exact iI_lt (by omega) (by omega) (by omega) (by omega)
      rw [sbF] at h4
      refine aw_iload hX dX7_stripBits_5 rfl ?_
      refine aw_aload_n hX dX7_stripBits_7 rfl ?_
      refine aw_iload_n hX dX7_stripBits_8 rfl ?_
      refine aw_callVp hX RX7 rfl (tX7_lengthOf _ _ _ e hm hK) rfl mf_X7_lengthOf mi_X7_lengthOf ms_X7_lengthOf kl_X7_45 (by assumption) rfl rfl (by decide) (Nat.le_of_ble_eq_true rfl) dX7_stripBits_9 (by decide) ?_
      refine aw_icmp_ge hX 63 dX7_stripBits_12 (by decide) (fun c_12 => ?_) (fun c_12 => ?_)
      · exact absurd c_12 (nI_ge hi (by omega))
      · refine aw_iload_n hX dX7_stripBits_15 rfl ?_
        refine aw_if_lt hX 63 dX7_stripBits_16 (by decide) (fun c_16 => ?_) (fun c_16 => ?_)
        · rw [if_pos (hy0.mp c_16)] at h4
          refine aw_iconst hX (0) dX7_stripBits_63 (by decide) ?_
          exact aw_iret hX rfl rfl rfl rfl dX7_stripBits_64 ⟨by rw [h4], rfl⟩
        · have hy : ¬ y < 0 := fun q => c_16 (hy0.mpr q)
          rw [if_neg hy] at h4
          refine aw_aload_n hX dX7_stripBits_19 rfl ?_
          refine aw_iload_n hX dX7_stripBits_20 rfl ?_
          refine aw_iload hX dX7_stripBits_21 rfl ?_
          refine aw_callVp hX RX7 rfl (tX7_characterOf _ _ _ e hm hK (by omega)) rfl mf_X7_characterOf mi_X7_characterOf ms_X7_characterOf kl_X7_49 (by assumption) rfl rfl (by decide) (Nat.le_of_ble_eq_true rfl) dX7_stripBits_23 (by decide) ?_
          refine aw_istore hX dX7_stripBits_26 (Nat.le_of_ble_eq_true rfl) ?_
          refine aw_aload_n hX dX7_stripBits_28 rfl ?_
          refine aw_iload hX dX7_stripBits_29 rfl ?_
          refine aw_callVp hX RX7 rfl (tX7_widthOf _ _ _ e (hc i hi)) rfl mf_X7_widthOf mi_X7_widthOf ms_X7_widthOf kl_X7_52 (by assumption) rfl rfl (by decide) (Nat.le_of_ble_eq_true rfl) dX7_stripBits_31 (by decide) ?_
          refine aw_istore hX dX7_stripBits_34 (Nat.le_of_ble_eq_true rfl) ?_
          refine aw_iload_n hX dX7_stripBits_36 rfl ?_
          refine aw_iload hX dX7_stripBits_37 rfl ?_
          refine aw_icmp_ge hX 50 dX7_stripBits_39 (by decide) (fun c_39 => ?_) (fun c_39 => ?_)
          · have hge : ¬ y < (wF wd (cr (m * 12 + i)) : Int) := fun q => Int32.not_le.mpr (hyw.mpr q) c_39
            rw [if_neg hge] at h4
            refine aw_iload_n hX dX7_stripBits_50 rfl ?_
            refine aw_iload hX dX7_stripBits_51 rfl ?_
            refine aw_iconst hX (1) dX7_stripBits_53 (by decide) ?_
            refine aw_iadd hX dX7_stripBits_54 ?_
            rw [nI_1]
            refine aw_isub hX dX7_stripBits_55 ?_
            rw [iI_n (wF wd (cr (m * 12 + i)) + 1), iI_sub]
            refine aw_istore_n hX dX7_stripBits_56 (Nat.le_of_ble_eq_true rfl) ?_
            refine aw_iinc hX (nI (i + 1)) dX7_stripBits_57 rfl (nI_1 i) ?_
            refine aw_goto hX 5 dX7_stripBits_60 (by decide) ?_
            exact ih (i + 1) (y - ((wF wd (cr (m * 12 + i)) + 1 : Nat) : Int)) _ _ (by omega) (by omega) (by omega) (by rw [h4]; push_cast; rfl)
          · have hlt := hyw.mp (Int32.not_le.mp c_39)
            rw [if_pos hlt] at h4
            rw [iI_nn (Int.not_lt.mp hy)]
            refine aw_aload_n hX dX7_stripBits_42 rfl ?_
            refine aw_iload hX dX7_stripBits_43 rfl ?_
            refine aw_iload_n hX dX7_stripBits_45 rfl ?_
            refine aw_callVp hX RX7 rfl (tX7_columnOf _ _ _ e (hc i hi) (by omega) hw5) rfl mf_X7_columnOf mi_X7_columnOf ms_X7_columnOf kl_X7_55 (by assumption) rfl rfl (by decide) (Nat.le_of_ble_eq_true rfl) dX7_stripBits_46 (by decide) ?_
            exact aw_iret hX rfl rfl rfl rfl dX7_stripBits_49 (by exact ⟨by rw [h4], rfl⟩)
  refine aw_iload_n hX dX7_stripBits_0 rfl ?_
  refine aw_istore_n hX dX7_stripBits_1 (Nat.le_of_ble_eq_true rfl) ?_
  refine aw_iconst hX (0) dX7_stripBits_2 (by decide) ?_
  refine aw_istore hX dX7_stripBits_3 (Nat.le_of_ble_eq_true rfl) ?_
  exact loop (ln m) 0 z _ _ (by omega) hz1 hz2 rfl
end SCRIPT2
/-! State: the dots' part, the meter's, the script's, the numbers -/
abbrev DV : Type := Int32 × IF × IF × IF × IF × IF
abbrev MV : Type := Int32 × Int32 × Int32 × Nat × IF
abbrev SV : Type := IF × (Nat → Nat) × (Nat → Nat) × (Nat → Nat) × Nat
abbrev PV : Type := DV × MV × SV × IF
abbrev HD (h : HP) (d : Nat) (v : DV) : Prop := HDots h d v.1 v.2.1 v.2.2.1 v.2.2.2.1 v.2.2.2.2.1 v.2.2.2.2.2
abbrev HM (h : HP) (d : Nat) (v : MV) : Prop := HMeter h d v.1 v.2.1 v.2.2.1 v.2.2.2.1 v.2.2.2.2
abbrev HS (h : HP) (d : Nat) (v : SV) : Prop := HScript h d v.1 v.2.1 v.2.2.1 v.2.2.2.1 v.2.2.2.2
def HState (h : HP) (p : Nat) (v : PV) : Prop :=
  h p = some (cO 8 [.ref (p + 1), .ref (p + 7), .ref (p + 9), .ref (p + 14)]) ∧ HD h (p + 1) v.1 ∧ HM h (p + 7) v.2.1 ∧ HS h (p + 9) v.2.2.1 ∧ h (p + 14) = some (cI 3 v.2.2.2)
section STATE
variable {h : HP} {p : Nat} {v : PV}
theorem HState.sm {h' : HP} {lo hi : Nat} (H : HState h p v) (s : Sm lo hi h h') (hq : hi ≤ p ∨ p + 15 ≤ lo) : HState h' p v :=
  ⟨(s.at (by omega)).trans H.1, H.2.1.sm s (by omega), H.2.2.1.sm s (by omega), H.2.2.2.1.sm s (by omega), (s.at (by omega)).trans H.2.2.2.2⟩
theorem HState.off (H : HState h p v) {a : Nat} (c : AC) (ha : a < p ∨ p + 15 ≤ a) : HState (hset h a c) p v :=
  H.sm (lo := a) (hi := a + 1) (Sm.rf.set (Nat.le_refl _) (Nat.lt_succ_self _)) (by omega)
theorem HState.dots {h' : HP} (H : HState h p v) {v' : DV} (H' : HD h' (p + 1) v') (s : Sm (p + 1) (p + 1 + 6) h h') : HState h' p (v', v.2) :=
  ⟨(s.at (by omega)).trans H.1, H', H.2.2.1.sm s (by omega), H.2.2.2.1.sm s (by omega), (s.at (by omega)).trans H.2.2.2.2⟩
theorem HState.meter {h' : HP} (H : HState h p v) {v' : MV} (H' : HM h' (p + 7) v') (s : Sm (p + 7) (p + 7 + 2) h h') : HState h' p (v.1, v', v.2.2) :=
  ⟨(s.at (by omega)).trans H.1, H.2.1.sm s (by omega), H', H.2.2.2.1.sm s (by omega), (s.at (by omega)).trans H.2.2.2.2⟩
theorem HState.script {h' : HP} (H : HState h p v) {v' : SV} (H' : HS h' (p + 9) v') (s : Sm (p + 9) (p + 9 + 5) h h') : HState h' p (v.1, v.2.1, v', v.2.2.2) :=
  ⟨(s.at (by omega)).trans H.1, H.2.1.sm s (by omega), H.2.2.1.sm s (by omega), H', (s.at (by omega)).trans H.2.2.2.2⟩
theorem HState.nums (H : HState h p v) (f : IF) : HState (hset h (p + 14) (cI 3 f)) p (v.1, v.2.1, v.2.2.1, f) :=
  ⟨(hset_ne _ _ (by omega)).trans H.1, H.2.1.off _ (by omega), H.2.2.1.off _ (by omega), H.2.2.2.1.off _ (by omega), hset_eq _ _ _⟩
theorem tX8_copyFrom (l : Launch) (E : EV) (n : Nat) {p' : Nat} {v' : PV} (H : HState h p v) (H' : HState h p' v') (hd : p + 15 ≤ p' ∨ p' + 15 ≤ p) : MX8_copyFrom l E n h [.ref p, .ref p'] (fun r h' => r = none ∧ HState h' p v' ∧ Sm p (p + 15) h h') := by
  have e := H
  have g := H'
  obtain ⟨e0, e1, e2, e3, e4⟩ := H
  obtain ⟨g0, g1, g2, g3, g4⟩ := H'
  have d0 := e1.1
  refine AM.intro mf_X8_copyFrom (by simp [Value.category]) (Nat.le_of_ble_eq_true rfl) (fun X hl hE hnm hX => ?_)
  subst hl
  subst hE
  show AW X _ _ 0 0 0 [some (.ref p), some (.ref p')] []
  refine aw_aload_n hX dX8_copyFrom_0 rfl ?_
  refine gt_X8_12 hX dX8_copyFrom_1 (by assumption) (by exact rfl) ?_
  refine aw_aload_n hX dX8_copyFrom_4 rfl ?_
  refine gt_X8_12 hX dX8_copyFrom_5 (by assumption) (by exact rfl) ?_
  refine aw_callV0 hX RX8 rfl (tX0_copyFrom _ _ _ e1 g1 (by omega)) rfl mf_X0_copyFrom mi_X0_copyFrom ms_X0_copyFrom kl_X8_44 (by assumption) rfl rfl (by decide) (Nat.le_of_ble_eq_true rfl) dX8_copyFrom_8 (by decide) (fun v_8 h_8 p_8 => ?_)
  obtain ⟨rfl, q, sm⟩ := p_8
  have e := e.dots (v' := v'.1) q sm
  have g := g.sm sm (by omega)
  have sm0 := Sm.tr (lo := p) (hi := p + 15) Sm.rf sm (by omega) (by omega)
  obtain ⟨e0, e1, e2, e3, e4⟩ := id e
  obtain ⟨g0, g1, g2, g3, g4⟩ := id g
  have d0 := e2.1
  refine aw_aload_n hX dX8_copyFrom_11 rfl ?_
  refine gt_X8_21 hX dX8_copyFrom_12 (by assumption) (by exact rfl) ?_
  refine aw_aload_n hX dX8_copyFrom_15 rfl ?_
  refine gt_X8_21 hX dX8_copyFrom_16 (by assumption) (by exact rfl) ?_
  refine aw_callV0 hX RX8 rfl (tX3_copyFrom _ _ _ e2 g2 (by omega)) rfl mf_X3_copyFrom mi_X3_copyFrom ms_X3_copyFrom kl_X8_48 (by assumption) rfl rfl (by decide) (Nat.le_of_ble_eq_true rfl) dX8_copyFrom_19 (by decide) (fun v_19 h_19 p_19 => ?_)
  obtain ⟨rfl, q, sm⟩ := p_19
  have e := e.meter (v' := v'.2.1) q sm
  have g := g.sm sm (by omega)
  have sm0 := sm0.tr sm (by omega) (by omega)
  obtain ⟨e0, e1, e2, e3, e4⟩ := id e
  obtain ⟨g0, g1, g2, g3, g4⟩ := id g
  have d0 := e3.1
  refine aw_aload_n hX dX8_copyFrom_22 rfl ?_
  refine gt_X8_28 hX dX8_copyFrom_23 (by assumption) (by exact rfl) ?_
  refine aw_aload_n hX dX8_copyFrom_26 rfl ?_
  refine gt_X8_28 hX dX8_copyFrom_27 (by assumption) (by exact rfl) ?_
  refine aw_callV0 hX RX8 rfl (tX7_copyFrom _ _ _ e3 g3 (by omega)) rfl mf_X7_copyFrom mi_X7_copyFrom ms_X7_copyFrom kl_X8_51 (by assumption) rfl rfl (by decide) (Nat.le_of_ble_eq_true rfl) dX8_copyFrom_30 (by decide) (fun v_30 h_30 p_30 => ?_)
  obtain ⟨rfl, q, sm⟩ := p_30
  have e := e.script (v' := v'.2.2.1) q sm
  have g := g.sm sm (by omega)
  have sm0 := sm0.tr sm (by omega) (by omega)
  obtain ⟨e0, e1, e2, e3, e4⟩ := id e
  obtain ⟨g0, g1, g2, g3, g4⟩ := id g
  refine aw_aload_n hX dX8_copyFrom_33 rfl ?_
  refine gt_X8_41 hX dX8_copyFrom_34 (by assumption) (by exact rfl) ?_
  refine aw_aload_n hX dX8_copyFrom_37 rfl ?_
  refine gt_X8_41 hX dX8_copyFrom_38 (by assumption) (by exact rfl) ?_
  refine aw_callSN0 hX RX8 "FlipBoard" rfl (tX9_copy _ _ _ g4 e4 (by decide)) rfl mf_X9_copy mt_X9_copy kl_X8_54 rfl (by decide) (Nat.le_of_ble_eq_true rfl) dX8_copyFrom_41 (by decide) (fun v_41 h_41 p_41 => ?_)
  obtain ⟨rfl, rfl⟩ := p_41
  have e := e.nums v'.2.2.2
  exact aw_vret hX rfl rfl rfl rfl dX8_copyFrom_44 (by exact ⟨rfl, e, sm0.set (by omega) (by omega)⟩)
theorem tX8_hasNumber (l : Launch) (E : EV) (n : Nat) (H : HState h p v) (c : Int32) : MX8_hasNumber l E n h [.ref p, .int c] (PR (.int (bI (0 ≤ c ∧ c < 3))) h) := by
  obtain ⟨e0, e1, e2, e3, e4⟩ := H
  refine AM.intro mf_X8_hasNumber (by simp [Value.category]) (Nat.le_of_ble_eq_true rfl) (fun X hl hE hnm hX => ?_)
  subst hl
  subst hE
  show AW X _ _ 0 0 0 [some (.ref p), some (.int c)] []
  refine aw_iload_n hX dX8_hasNumber_0 rfl ?_
  refine aw_if_lt hX 17 dX8_hasNumber_1 (by decide) (fun c_1 => ?_) (fun c_1 => ?_)
  · refine aw_iconst hX (0) dX8_hasNumber_17 (by decide) ?_
    exact aw_zret hX rfl (by first | exact Or.inl rfl | exact Or.inr rfl | assumption) rfl rfl rfl dX8_hasNumber_18 (by first | exact prT (by simp only [bI_eq0, Decidable.not_not, Int32.lt_iff_toInt_lt, Int32.le_iff_toInt_le, Int32.reduceToInt] at c_1 ⊢; omega) | exact prF (by simp only [bI_eq0, Decidable.not_not, Int32.lt_iff_toInt_lt, Int32.le_iff_toInt_le, Int32.reduceToInt] at c_1 ⊢; omega))
  · refine aw_iload_n hX dX8_hasNumber_4 rfl ?_
    refine aw_aload_n hX dX8_hasNumber_5 rfl ?_
    refine gt_X8_41 hX dX8_hasNumber_6 (by assumption) (by exact rfl) ?_
    refine aw_alen hX _ (by assumption) (by decide) rfl dX8_hasNumber_9 ?_
    rw [show Int32.ofNat 3 = 3 from rfl]
    refine aw_icmp_ge hX 17 dX8_hasNumber_10 (by decide) (fun c_10 => ?_) (fun c_10 => ?_)
    · refine aw_iconst hX (0) dX8_hasNumber_17 (by decide) ?_
      exact aw_zret hX rfl (by first | exact Or.inl rfl | exact Or.inr rfl | assumption) rfl rfl rfl dX8_hasNumber_18 (by first | exact prT (by simp only [bI_eq0, Decidable.not_not, Int32.lt_iff_toInt_lt, Int32.le_iff_toInt_le, Int32.reduceToInt] at c_1 c_10 ⊢; omega) | exact prF (by simp only [bI_eq0, Decidable.not_not, Int32.lt_iff_toInt_lt, Int32.le_iff_toInt_le, Int32.reduceToInt] at c_1 c_10 ⊢; omega))
    · refine aw_iconst hX (1) dX8_hasNumber_13 (by decide) ?_
      refine aw_goto hX 18 dX8_hasNumber_14 (by decide) ?_
      exact aw_zret hX rfl (by first | exact Or.inl rfl | exact Or.inr rfl | assumption) rfl rfl rfl dX8_hasNumber_18 (by first | exact prT (by simp only [bI_eq0, Decidable.not_not, Int32.lt_iff_toInt_lt, Int32.le_iff_toInt_le, Int32.reduceToInt] at c_1 c_10 ⊢; omega) | exact prF (by simp only [bI_eq0, Decidable.not_not, Int32.lt_iff_toInt_lt, Int32.le_iff_toInt_le, Int32.reduceToInt] at c_1 c_10 ⊢; omega))
/-- a dot is tried -/
def tryF (v : PV) (j i : Nat) : PV :=
  if v.1.2.2.2.1 j &&& mk i = 0 then
    (((v.1.1, upd v.1.2.1 j (v.1.2.1 j ^^^ mk i), v.1.2.2.1, (if v.1.2.2.2.2.2 (j * 7 + i) + 1 < v.2.2.2 2 then v.1.2.2.2.1 else upd v.1.2.2.2.1 j (v.1.2.2.2.1 j ||| mk i)), v.1.2.2.2.2.1, upd v.1.2.2.2.2.2 (j * 7 + i) (v.1.2.2.2.2.2 (j * 7 + i) + 1)) : DV), ((v.2.1.1 + 1, v.2.1.2) : MV), v.2.2)
  else (((v.1.1, v.1.2.1, v.1.2.2.1, v.1.2.2.2.1, upd v.1.2.2.2.2.1 j (v.1.2.2.2.2.1 j ||| mk i), v.1.2.2.2.2.2) : DV), ((v.2.1.1, v.2.1.2.1 + 1, v.2.1.2.2) : MV), v.2.2)
theorem tX8_tryDot (l : Launch) (E : EV) (n : Nat) (H : HState h p v) {j i : Nat} (hj : j < 40) (hw : nI j < v.1.1) (hi : i < 7) : MX8_tryDot l E n h [.ref p, .int (nI j), .int (nI i)] (fun r h' => r = none ∧ HState h' p (tryF v j i) ∧ Sm p (p + 15) h h') := by
  have e := H
  obtain ⟨e0, e1, e2, e3, e4⟩ := H
  have d0 := e1.1
  by_cases hs : v.1.2.2.2.1 j &&& mk i = 0
  · rw [tryF, if_pos hs]
    refine AM.intro mf_X8_tryDot (by simp [Value.category]) (Nat.le_of_ble_eq_true rfl) (fun X hl hE hnm hX => ?_)
    subst hl
    subst hE
    show AW X _ _ 0 0 0 [some (.ref p), some (.int (nI j)), some (.int (nI i))] []
    refine aw_aload_n hX dX8_tryDot_0 rfl ?_
    refine gt_X8_12 hX dX8_tryDot_1 (by assumption) (by exact rfl) ?_
    refine aw_iload_n hX dX8_tryDot_4 rfl ?_
    refine aw_iload_n hX dX8_tryDot_5 rfl ?_
    refine aw_callVp hX RX8 rfl (tX0_isStuck _ _ _ e1 hj hw hi) rfl mf_X0_isStuck mi_X0_isStuck ms_X0_isStuck kl_X8_58 (by assumption) rfl rfl (by decide) (Nat.le_of_ble_eq_true rfl) dX8_tryDot_6 (by decide) ?_
    rw [bI_f (fun q => q hs)]
    refine aw_if_eq hX 35 dX8_tryDot_9 (by decide) (fun c_9 => ?_) (fun c_9 => ?_)
    · refine aw_aload_n hX dX8_tryDot_35 rfl ?_
      refine gt_X8_12 hX dX8_tryDot_36 (by assumption) (by exact rfl) ?_
      refine aw_iload_n hX dX8_tryDot_39 rfl ?_
      refine aw_iload_n hX dX8_tryDot_40 rfl ?_
      refine aw_callV0 hX RX8 rfl (tX0_flip _ _ _ e1 hj hw hi) rfl mf_X0_flip mi_X0_flip ms_X0_flip kl_X8_70 (by assumption) rfl rfl (by decide) (Nat.le_of_ble_eq_true rfl) dX8_tryDot_41 (by decide) (fun v_41 h_41 p_41 => ?_)
      obtain ⟨rfl, q, sm⟩ := p_41
      have e := e.dots (v' := (v.1.1, upd v.1.2.1 j (v.1.2.1 j ^^^ mk i), v.1.2.2.1, v.1.2.2.2.1, v.1.2.2.2.2.1, upd v.1.2.2.2.2.2 (j * 7 + i) (v.1.2.2.2.2.2 (j * 7 + i) + 1))) q sm
      have sm0 := Sm.tr (lo := p) (hi := p + 15) Sm.rf sm (by omega) (by omega)
      obtain ⟨e0, e1, e2, e3, e4⟩ := id e
      have m0 := e2.1
      refine aw_aload_n hX dX8_tryDot_44 rfl ?_
      refine gt_X8_21 hX dX8_tryDot_45 (by assumption) (by exact rfl) ?_
      refine aw_dup hX dX8_tryDot_48 rfl ?_
      refine gt_X8_73 hX dX8_tryDot_49 (by assumption) (by exact rfl) ?_
      refine aw_iconst hX (1) dX8_tryDot_52 (by decide) ?_
      refine aw_iadd hX dX8_tryDot_53 ?_
      refine pt_X8_73 hX dX8_tryDot_54 (by assumption) (Nat.le_of_ble_eq_true rfl) ?_
      dsimp only [List.set_cons_zero, List.set_cons_succ]
      have q := e2.a0 (v.2.1.1 + 1) v.2.1.2.1 v.2.1.2.2.1 v.2.1.2.2.2.1
      have e := e.meter (v' := (v.2.1.1 + 1, v.2.1.2)) q (Sm.rf.set (by omega) (by omega))
      have sm0 := sm0.set (a := p + 7) (c := cO 3 [.int (v.2.1.1 + 1), .int v.2.1.2.1, .int v.2.1.2.2.1, .int (nI v.2.1.2.2.2.1), .ref (p + 7 + 1)]) (by omega) (by omega)
      obtain ⟨e0, e1, e2, e3, e4⟩ := id e
      have d0 := e1.1
      refine aw_aload_n hX dX8_tryDot_57 rfl ?_
      refine gt_X8_12 hX dX8_tryDot_58 (by assumption) (by exact rfl) ?_
      refine aw_iload_n hX dX8_tryDot_61 rfl ?_
      refine aw_iload_n hX dX8_tryDot_62 rfl ?_
      refine aw_callVp hX RX8 rfl (tX0_flipsOf _ _ _ e1 hj hw hi) rfl mf_X0_flipsOf mi_X0_flipsOf ms_X0_flipsOf kl_X8_76 (by assumption) rfl rfl (by decide) (Nat.le_of_ble_eq_true rfl) dX8_tryDot_63 (by decide) ?_
      refine aw_aload_n hX dX8_tryDot_66 rfl ?_
      refine gt_X8_41 hX dX8_tryDot_67 (by assumption) (by exact rfl) ?_
      refine aw_iconst hX (2) dX8_tryDot_70 (by decide) ?_
      refine aw_ialdN hX (2) (by assumption) rfl (by decide) (by first | decide | assumption) dX8_tryDot_71 ?_
      refine aw_icmp_lt hX 84 dX8_tryDot_72 (by decide) (fun c_72 => ?_) (fun c_72 => ?_)
      · have hlt : v.1.2.2.2.2.2 (j * 7 + i) + 1 < v.2.2.2 2 := by (have q := c_72; change upd _ _ _ _ < _ at q; rw [pk_us] at q; exact q)
        rw [if_pos hlt] at hX
        exact aw_vret hX rfl rfl rfl rfl dX8_tryDot_84 ⟨rfl, e, sm0⟩
      · have hlt : ¬ v.1.2.2.2.2.2 (j * 7 + i) + 1 < v.2.2.2 2 := fun q => c_72 (by show upd _ _ _ _ < _; rw [pk_us]; exact q)
        rw [if_neg hlt] at hX
        refine aw_aload_n hX dX8_tryDot_75 rfl ?_
        refine gt_X8_12 hX dX8_tryDot_76 (by assumption) (by exact rfl) ?_
        refine aw_iload_n hX dX8_tryDot_79 rfl ?_
        refine aw_iload_n hX dX8_tryDot_80 rfl ?_
        refine aw_callV0 hX RX8 rfl (tX0_stick _ _ _ e1 hj hw hi) rfl mf_X0_stick mi_X0_stick ms_X0_stick kl_X8_80 (by assumption) rfl rfl (by decide) (Nat.le_of_ble_eq_true rfl) dX8_tryDot_81 (by decide) (fun v_81 h_81 p_81 => ?_)
        obtain ⟨rfl, q, sm⟩ := p_81
        have e := e.dots (v' := (v.1.1, upd v.1.2.1 j (v.1.2.1 j ^^^ mk i), v.1.2.2.1, upd v.1.2.2.2.1 j (v.1.2.2.2.1 j ||| mk i), v.1.2.2.2.2.1, upd v.1.2.2.2.2.2 (j * 7 + i) (v.1.2.2.2.2.2 (j * 7 + i) + 1))) q sm
        exact aw_vret hX rfl rfl rfl rfl dX8_tryDot_84 (by exact ⟨rfl, e, sm0.tr sm (by omega) (by omega)⟩)
    · exact absurd rfl c_9
  · rw [tryF, if_neg hs]
    refine AM.intro mf_X8_tryDot (by simp [Value.category]) (Nat.le_of_ble_eq_true rfl) (fun X hl hE hnm hX => ?_)
    subst hl
    subst hE
    show AW X _ _ 0 0 0 [some (.ref p), some (.int (nI j)), some (.int (nI i))] []
    refine aw_aload_n hX dX8_tryDot_0 rfl ?_
    refine gt_X8_12 hX dX8_tryDot_1 (by assumption) (by exact rfl) ?_
    refine aw_iload_n hX dX8_tryDot_4 rfl ?_
    refine aw_iload_n hX dX8_tryDot_5 rfl ?_
    refine aw_callVp hX RX8 rfl (tX0_isStuck _ _ _ e1 hj hw hi) rfl mf_X0_isStuck mi_X0_isStuck ms_X0_isStuck kl_X8_58 (by assumption) rfl rfl (by decide) (Nat.le_of_ble_eq_true rfl) dX8_tryDot_6 (by decide) ?_
    rw [bI_t hs]
    refine aw_if_eq hX 35 dX8_tryDot_9 (by decide) (fun c_9 => ?_) (fun c_9 => ?_)
    · exact absurd c_9 (by decide)
    · refine aw_aload_n hX dX8_tryDot_12 rfl ?_
      refine gt_X8_12 hX dX8_tryDot_13 (by assumption) (by exact rfl) ?_
      refine aw_iload_n hX dX8_tryDot_16 rfl ?_
      refine aw_iload_n hX dX8_tryDot_17 rfl ?_
      refine aw_callV0 hX RX8 rfl (tX0_makeKnown _ _ _ e1 hj hw hi) rfl mf_X0_makeKnown mi_X0_makeKnown ms_X0_makeKnown kl_X8_62 (by assumption) rfl rfl (by decide) (Nat.le_of_ble_eq_true rfl) dX8_tryDot_18 (by decide) (fun v_18 h_18 p_18 => ?_)
      obtain ⟨rfl, q, sm⟩ := p_18
      have e := e.dots (v' := (v.1.1, v.1.2.1, v.1.2.2.1, v.1.2.2.2.1, upd v.1.2.2.2.2.1 j (v.1.2.2.2.2.1 j ||| mk i), v.1.2.2.2.2.2)) q sm
      have sm0 := Sm.tr (lo := p) (hi := p + 15) Sm.rf sm (by omega) (by omega)
      obtain ⟨e0, e1, e2, e3, e4⟩ := id e
      have m0 := e2.1
      refine aw_aload_n hX dX8_tryDot_21 rfl ?_
      refine gt_X8_21 hX dX8_tryDot_22 (by assumption) (by exact rfl) ?_
      refine aw_dup hX dX8_tryDot_25 rfl ?_
      refine gt_X8_66 hX dX8_tryDot_26 (by assumption) (by exact rfl) ?_
      refine aw_iconst hX (1) dX8_tryDot_29 (by decide) ?_
      refine aw_iadd hX dX8_tryDot_30 ?_
      refine pt_X8_66 hX dX8_tryDot_31 (by assumption) (Nat.le_of_ble_eq_true rfl) ?_
      dsimp only [List.set_cons_zero, List.set_cons_succ]
      have q := e2.a0 v.2.1.1 (v.2.1.2.1 + 1) v.2.1.2.2.1 v.2.1.2.2.2.1
      have e := e.meter (v' := (v.2.1.1, v.2.1.2.1 + 1, v.2.1.2.2)) q (Sm.rf.set (by omega) (by omega))
      have sm0 := sm0.set (a := p + 7) (c := cO 3 [.int v.2.1.1, .int (v.2.1.2.1 + 1), .int v.2.1.2.2.1, .int (nI v.2.1.2.2.2.1), .ref (p + 7 + 1)]) (by omega) (by omega)
      exact aw_vret hX rfl rfl rfl rfl dX8_tryDot_34 (by exact ⟨rfl, e, sm0⟩)
end STATE
end
section
theorem AW.top {X : CX} {n : Nat} {h : HP} {k sl pc : Nat} {L : List (Option Value)} {st : List Value} {x y : Int32} (e : x = y) (kk : AW X n h k sl pc L (.int y :: st)) : AW X n h k sl pc L (.int x :: st) := by
  rw [e]
  exact kk
theorem upd_lo2 {g f : IF} {j : Nat} (h : ∀ i, i < j → g i = f i) : ∀ i, i < j + 1 → upd g j (f j) i = f i := fun i hi => by
  by_cases e : i = j
  · subst e
    exact pk_us
  · rw [pk_un e]
    exact h i (by omega)
/-! History -/
def HHist (h : HP) (q f z : Nat) (vs : Nat → PV) : Prop :=
  h q = some (cO 2 [.ref (q + 1), .int (nI f), .int (nI z)]) ∧ (∃ g : Nat → Option Nat, h (q + 1) = some (cG 2 6 g) ∧ ∀ k, k < 6 → g k = some (q + 2 + 15 * k)) ∧ ∀ k, k < 6 → HState h (q + 2 + 15 * k) (vs k)
section HIST
variable {h : HP} {q f z : Nat} {vs : Nat → PV}
theorem HHist.sm {h' : HP} {lo hi : Nat} (H : HHist h q f z vs) (s : Sm lo hi h h') (hq : hi ≤ q ∨ q + 92 ≤ lo) : HHist h' q f z vs := by
  obtain ⟨h1, ⟨g, h2, h3⟩, h4⟩ := H
  exact ⟨(s.at (by omega)).trans h1, ⟨g, (s.at (by omega)).trans h2, h3⟩, fun k hk => (h4 k hk).sm s (by omega)⟩
theorem HHist.a0 (H : HHist h q f z vs) (f' z' : Nat) : HHist (hset h q (cO 2 [.ref (q + 1), .int (nI f'), .int (nI z')])) q f' z' vs := by
  obtain ⟨h1, ⟨g, h2, h3⟩, h4⟩ := H
  exact ⟨hset_eq _ _ _, ⟨g, (hset_ne _ _ (by omega)).trans h2, h3⟩, fun k hk => (h4 k hk).off _ (by omega)⟩
theorem HHist.put {h' : HP} (H : HHist h q f z vs) {k : Nat} {v : PV} (hk : k < 6) (H' : HState h' (q + 2 + 15 * k) v) (s : Sm (q + 2 + 15 * k) (q + 2 + 15 * k + 15) h h') : HHist h' q f z (va_up vs k v) := by
  obtain ⟨h1, ⟨g, h2, h3⟩, h4⟩ := H
  refine ⟨(s.at (by omega)).trans h1, ⟨g, (s.at (by omega)).trans h2, h3⟩, fun j hj => ?_⟩
  by_cases e : j = k
  · subst e
    rw [va_up, if_pos rfl]
    exact H'
  · rw [va_up, if_neg e]
    exact (h4 j hj).sm s (by omega)
theorem tX2_stateAt (l : Launch) (E : EV) (n : Nat) (H : HHist h q f z vs) {i : Nat} (hf : f < 1000) (hi : i < 1000) : MX2_stateAt l E n h [.ref q, .int (nI i)] (PR (.ref (q + 2 + 15 * ((f + i) % 6))) h) := by
  obtain ⟨e0, ⟨g, e1, e2⟩, e3⟩ := H
  refine AM.intro mf_X2_stateAt (by simp [Value.category]) (Nat.le_of_ble_eq_true rfl) (fun X hl hE hnm hX => ?_)
  subst hl
  subst hE
  show AW X _ _ 0 0 0 [some (.ref q), some (.int (nI i))] []
  refine aw_aload_n hX dX2_stateAt_0 rfl ?_
  refine gt_X2_11 hX dX2_stateAt_1 (by assumption) (by exact rfl) ?_
  refine aw_aload_n hX dX2_stateAt_4 rfl ?_
  refine gt_X2_17 hX dX2_stateAt_5 (by assumption) (by exact rfl) ?_
  refine aw_iload_n hX dX2_stateAt_8 rfl ?_
  refine aw_iadd hX dX2_stateAt_9 ?_
  rw [nI_add]
  refine aw_bipush hX (6) dX2_stateAt_10 (by decide) ?_
  refine aw_callSp hX RX2 rfl (tJ9_floorMod _ _ _ _ (a := f + i) (b := 6) (by omega) (by decide) (by decide)) rfl mf_J9_floorMod_7cf53 mt_J9_floorMod_7cf53 kl_X2_33 rfl (by decide) (Nat.le_of_ble_eq_true rfl) dX2_stateAt_12 (by decide) ?_
  refine aw_aaldN hX ((f + i) % 6) (by assumption) (by decide) rfl (Nat.mod_lt _ (by decide)) (by decide) (e2 _ (Nat.mod_lt _ (by decide))) dX2_stateAt_15 ?_
  exact aw_aret hX rfl rfl rfl rfl dX2_stateAt_16 (by exact ⟨rfl, rfl⟩)
theorem tX2_keep (l : Launch) (E : EV) (n : Nat) (H : HHist h q f z vs) (hf : f < 6) (hz : z ≤ 6) {p : Nat} {v : PV} (Hp : HState h p v) (hd : p + 15 ≤ q ∨ q + 92 ≤ p) : MX2_keep l E n h [.ref q, .ref p] (fun r h' => r = none ∧ HHist h' q (if z < 6 then f else (f + 1) % 6) (if z < 6 then z + 1 else 6) (va_up vs ((f + z) % 6) v) ∧ Sm q (q + 92) h h') := by
  have e := H
  have hmod : (f + z) % 6 < 6 := Nat.mod_lt _ (by decide)
  obtain ⟨e0, ⟨g, e1, e2⟩, e3⟩ := H
  have hs := e3 _ hmod
  have s0 := hs.1
  by_cases hz6 : z < 6
  · rw [if_pos hz6, if_pos hz6]
    refine AM.intro mf_X2_keep (by simp [Value.category]) (Nat.le_of_ble_eq_true rfl) (fun X hl hE hnm hX => ?_)
    subst hl
    subst hE
    show AW X _ _ 0 0 0 [some (.ref q), some (.ref p), none] []
    refine aw_aload_n hX dX2_keep_0 rfl ?_
    refine aw_aload_n hX dX2_keep_1 rfl ?_
    refine gt_X2_21 hX dX2_keep_2 (by assumption) (by exact rfl) ?_
    refine aw_callVp hX RX2 rfl (tX2_stateAt _ _ _ e (by omega) (by omega)) rfl mf_X2_stateAt mi_X2_stateAt ms_X2_stateAt kl_X2_25 (by assumption) rfl rfl (by decide) (Nat.le_of_ble_eq_true rfl) dX2_keep_5 (by decide) ?_
    refine aw_astore_n hX dX2_keep_8 (Nat.le_of_ble_eq_true rfl) ?_
    refine aw_aload_n hX dX2_keep_9 rfl ?_
    refine aw_ifnull hX dX2_keep_10 ?_
    refine aw_aload_n hX dX2_keep_13 rfl ?_
    refine aw_aload_n hX dX2_keep_14 rfl ?_
    refine aw_callV0 hX RX2 rfl (tX8_copyFrom _ _ _ hs Hp (by omega)) rfl mf_X8_copyFrom mi_X8_copyFrom ms_X8_copyFrom kl_X2_29 (by assumption) rfl rfl (by decide) (Nat.le_of_ble_eq_true rfl) dX2_keep_15 (by decide) (fun v_15 h_15 p_15 => ?_)
    obtain ⟨rfl, hs', sm⟩ := p_15
    have e := e.put hmod hs' sm
    have sm0 := Sm.tr (lo := q) (hi := q + 92) Sm.rf sm (by omega) (by omega)
    have e0 := e.1
    refine aw_aload_n hX dX2_keep_18 rfl ?_
    refine gt_X2_21 hX dX2_keep_19 (by assumption) (by exact rfl) ?_
    refine aw_bipush hX (6) dX2_keep_22 (by decide) ?_
    refine aw_icmp_ge hX 40 dX2_keep_24 (by decide) (fun c_24 => ?_) (fun c_24 => ?_)
    · exact absurd c_24 (nI_ge hz6 (by decide))
    · refine aw_aload_n hX dX2_keep_27 rfl ?_
      refine aw_dup hX dX2_keep_28 rfl ?_
      refine gt_X2_21 hX dX2_keep_29 (by assumption) (by exact rfl) ?_
      refine aw_iconst hX (1) dX2_keep_32 (by decide) ?_
      refine aw_iadd hX dX2_keep_33 ?_
      rw [nI_1]
      refine pt_X2_21 hX dX2_keep_34 (by assumption) (Nat.le_of_ble_eq_true rfl) ?_
      dsimp only [List.set_cons_zero, List.set_cons_succ]
      have e := e.a0 f (z + 1)
      refine aw_goto hX 55 dX2_keep_37 (by decide) ?_
      exact aw_vret hX rfl rfl rfl rfl dX2_keep_55 (by exact ⟨rfl, e, sm0.set (by omega) (by omega)⟩)
  · rw [if_neg hz6, if_neg hz6]
    have hz0 : z = 6 := by omega
    subst hz0
    refine AM.intro mf_X2_keep (by simp [Value.category]) (Nat.le_of_ble_eq_true rfl) (fun X hl hE hnm hX => ?_)
    subst hl
    subst hE
    show AW X _ _ 0 0 0 [some (.ref q), some (.ref p), none] []
    refine aw_aload_n hX dX2_keep_0 rfl ?_
    refine aw_aload_n hX dX2_keep_1 rfl ?_
    refine gt_X2_21 hX dX2_keep_2 (by assumption) (by exact rfl) ?_
    refine aw_callVp hX RX2 rfl (tX2_stateAt _ _ _ e (by omega) (by omega)) rfl mf_X2_stateAt mi_X2_stateAt ms_X2_stateAt kl_X2_25 (by assumption) rfl rfl (by decide) (Nat.le_of_ble_eq_true rfl) dX2_keep_5 (by decide) ?_
    refine aw_astore_n hX dX2_keep_8 (Nat.le_of_ble_eq_true rfl) ?_
    refine aw_aload_n hX dX2_keep_9 rfl ?_
    refine aw_ifnull hX dX2_keep_10 ?_
    refine aw_aload_n hX dX2_keep_13 rfl ?_
    refine aw_aload_n hX dX2_keep_14 rfl ?_
    refine aw_callV0 hX RX2 rfl (tX8_copyFrom _ _ _ hs Hp (by omega)) rfl mf_X8_copyFrom mi_X8_copyFrom ms_X8_copyFrom kl_X2_29 (by assumption) rfl rfl (by decide) (Nat.le_of_ble_eq_true rfl) dX2_keep_15 (by decide) (fun v_15 h_15 p_15 => ?_)
    obtain ⟨rfl, hs', sm⟩ := p_15
    have e := e.put hmod hs' sm
    have sm0 := Sm.tr (lo := q) (hi := q + 92) Sm.rf sm (by omega) (by omega)
    have e0 := e.1
    refine aw_aload_n hX dX2_keep_18 rfl ?_
    refine gt_X2_21 hX dX2_keep_19 (by assumption) (by exact rfl) ?_
    refine aw_bipush hX (6) dX2_keep_22 (by decide) ?_
    refine aw_icmp_ge hX 40 dX2_keep_24 (by decide) (fun c_24 => ?_) (fun c_24 => ?_)
    · refine aw_aload_n hX dX2_keep_40 rfl ?_
      refine aw_aload_n hX dX2_keep_41 rfl ?_
      refine gt_X2_17 hX dX2_keep_42 (by assumption) (by exact rfl) ?_
      refine aw_iconst hX (1) dX2_keep_45 (by decide) ?_
      refine aw_iadd hX dX2_keep_46 ?_
      rw [nI_1]
      refine aw_bipush hX (6) dX2_keep_47 (by decide) ?_
      refine aw_callSp hX RX2 rfl (tJ9_floorMod _ _ _ _ (a := f + 1) (b := 6) (by omega) (by decide) (by decide)) rfl mf_J9_floorMod_7cf53 mt_J9_floorMod_7cf53 kl_X2_33 rfl (by decide) (Nat.le_of_ble_eq_true rfl) dX2_keep_49 (by decide) ?_
      refine pt_X2_17 hX dX2_keep_52 (by assumption) (Nat.le_of_ble_eq_true rfl) ?_
      dsimp only [List.set_cons_zero, List.set_cons_succ]
      have e := e.a0 ((f + 1) % 6) 6
      exact aw_vret hX rfl rfl rfl rfl dX2_keep_55 (by exact ⟨rfl, e, sm0.set (by omega) (by omega)⟩)
    · exact absurd (Int32.le_refl 6) c_24
end HIST
/-! Painter -/
def stF (W T : Nat) (s : Int) : Int := if T ≤ W then ((W - T) / 2 : Nat) + s else s
abbrev TF (S : SV) (m : Nat) : Nat := tF S.2.1 (fun k => S.2.2.1 (m * 12 + k)) (S.2.2.2.1 m)
/-- the picture of a message with a shift -/
def pF (W : Nat) (S : SV) (m : Nat) (s : Int) : IF := fun c => if c < W then sbF S.1 S.2.1 (fun k => S.2.2.1 (m * 12 + k)) (S.2.2.2.1 m) 0 ((c : Int) - stF W (TF S m) s) else 0
def WS (S : SV) : Prop := S.2.2.2.2 ≤ 8 ∧ (∀ c, c < 26 → S.2.1 c ≤ 5) ∧ ∀ m, m < S.2.2.2.2 → 1 ≤ S.2.2.2.1 m ∧ S.2.2.2.1 m ≤ 12 ∧ ∀ i, i < S.2.2.2.1 m → S.2.2.1 (m * 12 + i) ≤ 26
theorem sumN_le {f : Nat → Nat} {b : Nat} : ∀ {n : Nat}, (∀ i, i < n → f i ≤ b) → sumN f n ≤ n * b
  | 0, _ => by simp [sumN]
  | n + 1, h => by
    have h1 := sumN_le (f := f) (b := b) (n := n) (fun i hi => h i (by omega))
    have h2 := h n (by omega)
    rw [sumN, Nat.succ_mul]
    omega
theorem WS.wF5 {S : SV} (H : WS S) {c : Nat} (hc : c ≤ 26) : wF S.2.1 c ≤ 5 := by
  unfold wF
  split
  · decide
  · exact H.2.1 c (by omega)
theorem WS.T71 {S : SV} (H : WS S) {m : Nat} (hm : m < S.2.2.2.2) : TF S m ≤ 71 := by
  obtain ⟨h1, h2, h3⟩ := H.2.2 m hm
  have h4 := sumN_le (f := fun k => wF S.2.1 (S.2.2.1 (m * 12 + k))) (b := 5) (n := S.2.2.2.1 m) (fun i hi => H.wF5 (h3 i hi))
  show S.2.2.2.1 m - 1 + sumN (fun k => wF S.2.1 (S.2.2.1 (m * 12 + k))) (S.2.2.2.1 m) ≤ 71
  omega
def HPaint (h : HP) (a : Nat) : Prop := h a = some (cO 5 [.ref (a + 1), .ref (a + 2)]) ∧ (∃ f, h (a + 1) = some (cI 40 f)) ∧ ∃ f, h (a + 2) = some (cI 40 f)
section PAINT
variable {h : HP} {p : Nat} {v : PV} {W m : Nat}
theorem HPaint.sm {h' : HP} {a lo hi : Nat} (H : HPaint h a) (s : Sm lo hi h h') (hq : hi ≤ a ∨ a + 3 ≤ lo) : HPaint h' a := by
  obtain ⟨h1, ⟨f, h2⟩, g, h3⟩ := H
  exact ⟨(s.at (by omega)).trans h1, ⟨f, (s.at (by omega)).trans h2⟩, g, (s.at (by omega)).trans h3⟩
theorem HPaint.a1 {a : Nat} (H : HPaint h a) (f : IF) : HPaint (hset h (a + 1) (cI 40 f)) a :=
  ⟨(hset_ne _ _ (by omega)).trans H.1, ⟨f, hset_eq _ _ _⟩, H.2.2.choose, (hset_ne _ _ (by omega)).trans H.2.2.choose_spec⟩
theorem HPaint.a2 {a : Nat} (H : HPaint h a) (f : IF) : HPaint (hset h (a + 2) (cI 40 f)) a :=
  ⟨(hset_ne _ _ (by omega)).trans H.1, ⟨H.2.1.choose, (hset_ne _ _ (by omega)).trans H.2.1.choose_spec⟩, f, hset_eq _ _ _⟩
theorem tX5_draw (l : Launch) (E : EV) (n : Nat) (H : HState h p v) (hW : v.1.1 = nI W) (hW40 : W ≤ 40) (hS : WS v.2.2.1) (hm : m < v.2.2.1.2.2.2.2) {s : Int} (hs1 : -2 ≤ s) (hs2 : s ≤ 2) (a : Nat) {b : Nat} {f : IF} (hb : h b = some (cI 40 f)) (hbp : b < p ∨ p + 15 ≤ b) : MX5_draw l E n h [.ref a, .ref p, .int (nI m), .int (iI s), .ref b] (fun r h' => r = none ∧ h' = hset h b (cI 40 (pF W v.2.2.1 m s))) := by
  obtain ⟨hl1, hl2, hl3⟩ := hS.2.2 m hm
  have hT := hS.T71 hm
  have e := H
  obtain ⟨e0, e1, e2, e3, e4⟩ := H
  have d0 := e1.1
  have s0 := e3.1
  refine AM.intro mf_X5_draw (by simp [Value.category]) (Nat.le_of_ble_eq_true rfl) (fun X hl hE hnm hX => ?_)
  subst hl
  subst hE
  show AW X _ _ 0 0 0 [some (.ref a), some (.ref p), some (.int (nI m)), some (.int (iI s)), some (.ref b), none, none, none, none] []
  have loop : ∀ (g j : Nat) (k : IF), j ≤ 40 → 40 - j < g → (∀ i, i < j → k i = pF W v.2.2.1 m s i) → AW X n (hset h b (cI 40 k)) 0 0 44 [some (.ref a), some (.ref p), some (.int (nI m)), some (.int (iI s)), some (.ref b), some (.int (nI W)), some (.int (nI (TF v.2.2.1 m))), some (.int (iI (stF W (TF v.2.2.1 m) s))), some (.int (nI j))] [] := by
    intro g
    induction g with
    | zero => intro j k h1 h2; omega
    | succ g ih =>
      intro j k h1 h2 h3
      have e := e.off (a := b) (cI 40 k) hbp
      have eb := hset_eq h b (cI 40 k)
      obtain ⟨e0, e1, e2, e3, e4⟩ := id e
      have s0 := e3.1
      have hst : -2 ≤ stF W (TF v.2.2.1 m) s ∧ stF W (TF v.2.2.1 m) s ≤ 22 := by
        unfold stF
        split <;> omega
      refine aw_iload hX dX5_draw_44 rfl ?_
      refine aw_aload hX dX5_draw_46 rfl ?_
      refine aw_alen hX _ (by assumption) (by decide) rfl dX5_draw_48 ?_
      refine aw_icmp_ge hX 87 dX5_draw_49 (by decide) (fun c_49 => ?_) (fun c_49 => ?_)
      · have hj : j = 40 := lp_out h1 (by decide) c_49
        subst hj
        refine AW.ext (pF W v.2.2.1 m s) eb (fun i hi => h3 i hi) ?_
        rw [hset_hset]
        exact aw_vret hX rfl rfl rfl rfl dX5_draw_87 ⟨rfl, rfl⟩
      · have hj : j < 40 := lp_in h1 (by decide) c_49
        refine aw_aload hX dX5_draw_52 rfl ?_
        refine aw_iload hX dX5_draw_54 rfl ?_
        refine aw_iload hX dX5_draw_56 rfl ?_
        refine aw_iload hX dX5_draw_58 rfl ?_
        refine aw_icmp_ge hX 79 dX5_draw_60 (by decide) (fun c_60 => ?_) (fun c_60 => ?_)
        · refine aw_iconst hX (0) dX5_draw_79 (by decide) ?_
          have hx : (0 : Int32) = pF W v.2.2.1 m s j := by rw [pF, if_neg (by have := (nI_leI (a := W) (b := j) (by omega) (by omega)).mp c_60; omega)]
          rw [hx]
          refine aw_iastN hX (j) (by assumption) rfl hj (by first | decide | assumption) dX5_draw_80 ?_
          rw [hset_hset]
          refine aw_iinc hX (nI (j + 1)) dX5_draw_81 rfl (nI_1 j) ?_
          refine aw_goto hX 44 dX5_draw_84 (by decide) ?_
          exact ih (j + 1) (upd k j (pF W v.2.2.1 m s j)) hj (by omega) (upd_lo2 h3)
        · have hjW : j < W := by (have q := c_60; rw [nI_leI (by omega) (by omega)] at q; omega)
          refine aw_aload_n hX dX5_draw_63 rfl ?_
          refine gt_X5_30 hX dX5_draw_64 (by assumption) (by exact rfl) ?_
          refine aw_iload_n hX dX5_draw_67 rfl ?_
          refine aw_iload hX dX5_draw_68 rfl ?_
          refine aw_iload hX dX5_draw_70 rfl ?_
          refine aw_isub hX dX5_draw_72 ?_
          rw [iI_n j, iI_sub]
          refine aw_callVp hX RX5 rfl (tX7_stripBits _ _ _ e3 hm hS.1 hl2 hl3 hS.2.1 (by omega) (by omega)) rfl mf_X7_stripBits mi_X7_stripBits ms_X7_stripBits kl_X5_40 (by assumption) rfl rfl (by decide) (Nat.le_of_ble_eq_true rfl) dX5_draw_73 (by decide) ?_
          have hx : sbF v.2.2.1.1 v.2.2.1.2.1 (fun k => v.2.2.1.2.2.1 (m * 12 + k)) (v.2.2.1.2.2.2.1 m) 0 ((j : Int) - stF W (TF v.2.2.1 m) s) = pF W v.2.2.1 m s j := by rw [pF, if_pos hjW]
          rw [hx, ← iI_n j]
          refine aw_goto hX 80 dX5_draw_76 (by decide) ?_
          refine aw_iastN hX (j) (by assumption) rfl hj (by first | decide | assumption) dX5_draw_80 ?_
          rw [hset_hset]
          refine aw_iinc hX (nI (j + 1)) dX5_draw_81 rfl (nI_1 j) ?_
          refine aw_goto hX 44 dX5_draw_84 (by decide) ?_
          exact ih (j + 1) (upd k j (pF W v.2.2.1 m s j)) hj (by omega) (upd_lo2 h3)
  refine aw_aload_n hX dX5_draw_0 rfl ?_
  refine gt_X5_18 hX dX5_draw_1 (by assumption) (by exact rfl) ?_
  refine gt_X5_24 hX dX5_draw_4 (by assumption) (by exact rfl) ?_
  rw [hW]
  refine aw_istore hX dX5_draw_7 (Nat.le_of_ble_eq_true rfl) ?_
  refine aw_aload_n hX dX5_draw_9 rfl ?_
  refine gt_X5_30 hX dX5_draw_10 (by assumption) (by exact rfl) ?_
  refine aw_iload_n hX dX5_draw_13 rfl ?_
  refine aw_callVp hX RX5 rfl (tX7_stripColumns _ _ _ e3 hm hS.1 hl1 hl2 hl3) rfl mf_X7_stripColumns mi_X7_stripColumns ms_X7_stripColumns kl_X5_34 (by assumption) rfl rfl (by decide) (Nat.le_of_ble_eq_true rfl) dX5_draw_14 (by decide) ?_
  refine aw_istore hX dX5_draw_17 (Nat.le_of_ble_eq_true rfl) ?_
  refine aw_iload hX dX5_draw_19 rfl ?_
  refine aw_iload hX dX5_draw_21 rfl ?_
  refine aw_icmp_gt hX 38 dX5_draw_23 (by decide) (fun c_23 => ?_) (fun c_23 => ?_)
  · have hTW : ¬ TF v.2.2.1 m ≤ W := by have q : nI W < nI (TF v.2.2.1 m) := c_23; rw [nI_ltI (by omega) (by omega)] at q; omega
    refine aw_iload_n hX dX5_draw_38 rfl ?_
    refine AW.top (y := iI (stF W (TF v.2.2.1 m) s)) (by rw [stF, if_neg hTW]) ?_
    refine aw_istore hX dX5_draw_39 (Nat.le_of_ble_eq_true rfl) ?_
    refine aw_iconst hX (0) dX5_draw_41 (by decide) ?_
    refine aw_istore hX dX5_draw_42 (Nat.le_of_ble_eq_true rfl) ?_
    rw [← hset_self hb]
    exact loop 41 0 f (by decide) (by decide) (fun i hi => absurd hi (by omega))
  · have hTW : TF v.2.2.1 m ≤ W := by have q : ¬ nI W < nI (TF v.2.2.1 m) := c_23; rw [nI_ltI (by omega) (by omega)] at q; omega
    refine aw_iload hX dX5_draw_26 rfl ?_
    refine aw_iload hX dX5_draw_28 rfl ?_
    refine aw_isub hX dX5_draw_30 ?_
    rw [pk_sub hTW]
    refine aw_iconst hX (2) dX5_draw_31 (by decide) ?_
    refine aw_idiv hX dX5_draw_32 (by decide) ?_
    have hd : nI (W - TF v.2.2.1 m) / 2 = nI ((W - TF v.2.2.1 m) / 2) := pk_div (d := 2) (by omega) (by decide) (by decide)
    rw [hd]
    refine aw_iload_n hX dX5_draw_33 rfl ?_
    refine aw_iadd hX dX5_draw_34 ?_
    rw [iI_n ((W - TF v.2.2.1 m) / 2), iI_add, show (((W - TF v.2.2.1 m) / 2 : Nat) : Int) + s = stF W (TF v.2.2.1 m) s by rw [stF, if_pos hTW]]
    refine aw_goto hX 39 dX5_draw_35 (by decide) ?_
    refine aw_istore hX dX5_draw_39 (Nat.le_of_ble_eq_true rfl) ?_
    refine aw_iconst hX (0) dX5_draw_41 (by decide) ?_
    refine aw_istore hX dX5_draw_42 (Nat.le_of_ble_eq_true rfl) ?_
    rw [← hset_self hb]
    exact loop 41 0 f (by decide) (by decide) (fun i hi => absurd hi (by omega))
end PAINT
end
section
/-! the best shift -/
def SH (k : Nat) : Int := [0, -1, 1, -2, 2].getD k 0
theorem SH_eF (E : EV) {k : Nat} (hk : k < 5) : eF E 3 k = iI (SH k) := by
  match k, hk with
  | 0, _ => rfl
  | 1, _ => rfl
  | 2, _ => rfl
  | 3, _ => rfl
  | 4, _ => rfl
theorem SH_in {k : Nat} (hk : k < 5) : -2 ≤ SH k ∧ SH k ≤ 2 := by
  match k, hk with
  | 0, _ => decide
  | 1, _ => decide
  | 2, _ => decide
  | 3, _ => decide
  | 4, _ => decide
/-- known dots against a picture, dots that differ and aren't known -/
def agF (v : PV) (p : IF) : Int32 := sumI (fun c => bcF ((p c ^^^ v.1.2.1 c) &&& v.1.2.2.2.2.1 c)) 40
def dfF (v : PV) (p o : IF) : Int32 := sumI (fun c => bcF ((p c ^^^ o c) &&& (v.1.2.2.2.2.1 c ^^^ (-1)))) 40
/-- the best of the first k shifts: the shift, its dots against it, its due dots -/
def bsF (v : PV) (W m : Nat) : Nat → Int × Int32 × Int32
  | 0 => (0, 2147483647, 2147483647)
  | k + 1 => if agF v (pF W v.2.2.1 m (SH k)) < (bsF v W m k).2.1 ∨ (agF v (pF W v.2.2.1 m (SH k)) = (bsF v W m k).2.1 ∧ dfF v (pF W v.2.2.1 m (SH k)) v.1.2.1 < (bsF v W m k).2.2)
      then (SH k, agF v (pF W v.2.2.1 m (SH k)), dfF v (pF W v.2.2.1 m (SH k)) v.1.2.1) else bsF v W m k
def bestF (v : PV) (W m : Nat) : Int := (bsF v W m 5).1
theorem bsF_in (v : PV) (W m : Nat) : ∀ k, k ≤ 5 → -2 ≤ (bsF v W m k).1 ∧ (bsF v W m k).1 ≤ 2
  | 0, _ => by
    show (-2 : Int) ≤ 0 ∧ (0 : Int) ≤ 2
    decide
  | k + 1, h => by
    rw [bsF]
    split
    · exact SH_in (by omega)
    · exact bsF_in v W m k (by omega)
theorem bestF_in (v : PV) (W m : Nat) : -2 ≤ bestF v W m ∧ bestF v W m ≤ 2 := bsF_in v W m 5 (Nat.le_refl 5)
section BEST
variable {h : HP} {p : Nat} {v : PV} {W m : Nat}
theorem tX5_bestShiftOf (l : Launch) (E : EV) (n : Nat) (H : HState h p v) (hW : v.1.1 = nI W) (hW40 : W ≤ 40) (hS : WS v.2.2.1) (hm : m < v.2.2.1.2.2.2.2) {a : Nat} (hP : HPaint h a) (ha : a + 3 ≤ p ∨ p + 15 ≤ a) : MX5_bestShiftOf l E n h [.ref a, .ref p, .int (nI m)] (fun r h' => r = some (.int (iI (bestF v W m))) ∧ ∃ f, h' = hset h (a + 1) (cI 40 f)) := by
  have e := H
  obtain ⟨e0, e1, e2, e3, e4⟩ := H
  obtain ⟨q0, ⟨f0, q1⟩, q2⟩ := hP
  refine AM.intro mf_X5_bestShiftOf (by simp [Value.category]) (Nat.le_of_ble_eq_true rfl) (fun X hl hE hnm hX => ?_)
  subst hl
  subst hE
  show AW X _ _ 0 0 0 [some (.ref a), some (.ref p), some (.int (nI m)), none, none, none, none, none, none, none, none, none] []
  have loop : ∀ (g k : Nat) (f : IF) (x y z : Option Value), k ≤ 5 → 5 - k < g → AW X n (hset h (a + 1) (cI 40 f)) 0 0 23 [some (.ref a), some (.ref p), some (.int (nI m)), some (.int (iI (bsF v W m k).1)), some (.int (bsF v W m k).2.1), some (.int (bsF v W m k).2.2), some (.ref 3), some (.int 5), some (.int (nI k)), x, y, z] [] := by
    intro g
    induction g with
    | zero => intro k f x y z h1 h2; omega
    | succ g ih =>
      intro k f x y z h1 h2
      have e' := e.off (a := a + 1) (cI 40 f) (by omega)
      have eb := hset_eq h (a + 1) (cI 40 f)
      have q0' : hset h (a + 1) (cI 40 f) a = some (cO 5 [.ref (a + 1), .ref (a + 2)]) := (hset_ne _ _ (by omega)).trans q0
      refine aw_iload hX dX5_bestShiftOf_23 rfl ?_
      refine aw_iload hX dX5_bestShiftOf_25 rfl ?_
      refine aw_icmp_ge hX 120 dX5_bestShiftOf_27 (by decide) (fun c_27 => ?_) (fun c_27 => ?_)
      · have hk : k = 5 := lp_out h1 (by decide) c_27
        subst hk
        refine aw_iload_n hX dX5_bestShiftOf_120 rfl ?_
        exact aw_iret hX rfl rfl rfl rfl dX5_bestShiftOf_121 ⟨rfl, f, rfl⟩
      · have hk : k < 5 := lp_in h1 (by decide) c_27
        have hsh := SH_in hk
        refine aw_aload hX dX5_bestShiftOf_30 rfl ?_
        refine aw_iload hX dX5_bestShiftOf_32 rfl ?_
        refine aw_roaldN hX k (by decide) rfl hk (Nat.le_of_ble_eq_true rfl) dX5_bestShiftOf_34 ?_
        rw [SH_eF _ hk]
        refine aw_istore hX dX5_bestShiftOf_35 (Nat.le_of_ble_eq_true rfl) ?_
        refine aw_aload_n hX dX5_bestShiftOf_37 rfl ?_
        refine aw_aload_n hX dX5_bestShiftOf_38 rfl ?_
        refine aw_iload_n hX dX5_bestShiftOf_39 rfl ?_
        refine aw_iload hX dX5_bestShiftOf_40 rfl ?_
        refine aw_aload_n hX dX5_bestShiftOf_42 rfl ?_
        refine gt_X5_9 hX dX5_bestShiftOf_43 (by assumption) (by exact rfl) ?_
        refine aw_callV0 hX RX5 rfl (tX5_draw _ _ _ e' hW hW40 hS hm hsh.1 hsh.2 a eb (by omega)) rfl mf_X5_draw mi_X5_draw ms_X5_draw kl_X5_48 (by assumption) rfl rfl (by decide) (Nat.le_of_ble_eq_true rfl) dX5_bestShiftOf_46 (by decide) (fun v_46 h_46 p_46 => ?_)
        obtain ⟨rfl, rfl⟩ := p_46
        rw [hset_hset]
        clear e' eb q0'
        have e' := e.off (a := a + 1) (cI 40 (pF W v.2.2.1 m (SH k))) (by omega)
        have eb := hset_eq h (a + 1) (cI 40 (pF W v.2.2.1 m (SH k)))
        have q0' : hset h (a + 1) (cI 40 (pF W v.2.2.1 m (SH k))) a = some (cO 5 [.ref (a + 1), .ref (a + 2)]) := (hset_ne _ _ (by omega)).trans q0
        have s0 := e'.1
        have d0 := e'.2.1.1
        have d1 := e'.2.1.2.1
        refine aw_aload_n hX dX5_bestShiftOf_49 rfl ?_
        refine gt_X5_18 hX dX5_bestShiftOf_50 (by assumption) (by exact rfl) ?_
        refine aw_aload_n hX dX5_bestShiftOf_53 rfl ?_
        refine gt_X5_9 hX dX5_bestShiftOf_54 (by assumption) (by exact rfl) ?_
        refine aw_callVp hX RX5 rfl (tX0_knownAgainst _ _ _ e'.2.1 eb) rfl mf_X0_knownAgainst mi_X0_knownAgainst ms_X0_knownAgainst kl_X5_58 (by assumption) rfl rfl (by decide) (Nat.le_of_ble_eq_true rfl) dX5_bestShiftOf_57 (by decide) ?_
        refine aw_istore hX dX5_bestShiftOf_60 (Nat.le_of_ble_eq_true rfl) ?_
        refine aw_aload_n hX dX5_bestShiftOf_62 rfl ?_
        refine gt_X5_18 hX dX5_bestShiftOf_63 (by assumption) (by exact rfl) ?_
        refine aw_aload_n hX dX5_bestShiftOf_66 rfl ?_
        refine gt_X5_9 hX dX5_bestShiftOf_67 (by assumption) (by exact rfl) ?_
        refine aw_aload_n hX dX5_bestShiftOf_70 rfl ?_
        refine gt_X5_18 hX dX5_bestShiftOf_71 (by assumption) (by exact rfl) ?_
        refine gt_X5_62 hX dX5_bestShiftOf_74 (by assumption) (by exact rfl) ?_
        refine aw_callVp hX RX5 rfl (tX0_differing _ _ _ e'.2.1 eb d1) rfl mf_X0_differing mi_X0_differing ms_X0_differing kl_X5_65 (by assumption) rfl rfl (by decide) (Nat.le_of_ble_eq_true rfl) dX5_bestShiftOf_77 (by decide) ?_
        refine aw_istore hX dX5_bestShiftOf_80 (Nat.le_of_ble_eq_true rfl) ?_
        refine aw_iload hX dX5_bestShiftOf_82 rfl ?_
        refine aw_iload hX dX5_bestShiftOf_84 rfl ?_
        refine aw_icmp_lt hX 103 dX5_bestShiftOf_86 (by decide) (fun c_86 => ?_) (fun c_86 => ?_)
        · have hc : bsF v W m (k + 1) = (SH k, agF v (pF W v.2.2.1 m (SH k)), dfF v (pF W v.2.2.1 m (SH k)) v.1.2.1) := by rw [bsF]; first | exact if_pos (Or.inl c_86) | exact if_pos (Or.inr ⟨c_93, Int32.not_le.mp c_100⟩)
          have hi := ih (k + 1) (pF W v.2.2.1 m (SH k)) (some (.int (iI (SH k)))) (some (.int (agF v (pF W v.2.2.1 m (SH k))))) (some (.int (dfF v (pF W v.2.2.1 m (SH k)) v.1.2.1))) hk (by omega)
          rw [hc] at hi
          refine aw_iload hX dX5_bestShiftOf_103 rfl ?_
          refine aw_istore_n hX dX5_bestShiftOf_105 (Nat.le_of_ble_eq_true rfl) ?_
          refine aw_iload hX dX5_bestShiftOf_106 rfl ?_
          refine aw_istore hX dX5_bestShiftOf_108 (Nat.le_of_ble_eq_true rfl) ?_
          refine aw_iload hX dX5_bestShiftOf_110 rfl ?_
          refine aw_istore hX dX5_bestShiftOf_112 (Nat.le_of_ble_eq_true rfl) ?_
          refine aw_iinc hX (nI (k + 1)) dX5_bestShiftOf_114 rfl (nI_1 k) ?_
          refine aw_goto hX 23 dX5_bestShiftOf_117 (by decide) ?_
          exact hi
        · refine aw_iload hX dX5_bestShiftOf_89 rfl ?_
          refine aw_iload hX dX5_bestShiftOf_91 rfl ?_
          refine aw_icmp_ne hX 114 dX5_bestShiftOf_93 (by decide) (fun c_93 => ?_) (fun c_93 => ?_)
          · have hc : bsF v W m (k + 1) = bsF v W m k := by rw [bsF]; exact if_neg (fun q => q.elim c_86 (fun q => c_93 q.1))
            have hi := ih (k + 1) (pF W v.2.2.1 m (SH k)) (some (.int (iI (SH k)))) (some (.int (agF v (pF W v.2.2.1 m (SH k))))) (some (.int (dfF v (pF W v.2.2.1 m (SH k)) v.1.2.1))) hk (by omega)
            rw [hc] at hi
            refine aw_iinc hX (nI (k + 1)) dX5_bestShiftOf_114 rfl (nI_1 k) ?_
            refine aw_goto hX 23 dX5_bestShiftOf_117 (by decide) ?_
            exact hi
          · refine aw_iload hX dX5_bestShiftOf_96 rfl ?_
            refine aw_iload hX dX5_bestShiftOf_98 rfl ?_
            refine aw_icmp_ge hX 114 dX5_bestShiftOf_100 (by decide) (fun c_100 => ?_) (fun c_100 => ?_)
            · have hc : bsF v W m (k + 1) = bsF v W m k := by rw [bsF]; exact if_neg (fun q => q.elim c_86 (fun q => Int32.not_le.mpr q.2 c_100))
              have hi := ih (k + 1) (pF W v.2.2.1 m (SH k)) (some (.int (iI (SH k)))) (some (.int (agF v (pF W v.2.2.1 m (SH k))))) (some (.int (dfF v (pF W v.2.2.1 m (SH k)) v.1.2.1))) hk (by omega)
              rw [hc] at hi
              refine aw_iinc hX (nI (k + 1)) dX5_bestShiftOf_114 rfl (nI_1 k) ?_
              refine aw_goto hX 23 dX5_bestShiftOf_117 (by decide) ?_
              exact hi
            · have hc : bsF v W m (k + 1) = (SH k, agF v (pF W v.2.2.1 m (SH k)), dfF v (pF W v.2.2.1 m (SH k)) v.1.2.1) := by rw [bsF]; first | exact if_pos (Or.inl c_86) | exact if_pos (Or.inr ⟨c_93, Int32.not_le.mp c_100⟩)
              have hi := ih (k + 1) (pF W v.2.2.1 m (SH k)) (some (.int (iI (SH k)))) (some (.int (agF v (pF W v.2.2.1 m (SH k))))) (some (.int (dfF v (pF W v.2.2.1 m (SH k)) v.1.2.1))) hk (by omega)
              rw [hc] at hi
              refine aw_iload hX dX5_bestShiftOf_103 rfl ?_
              refine aw_istore_n hX dX5_bestShiftOf_105 (Nat.le_of_ble_eq_true rfl) ?_
              refine aw_iload hX dX5_bestShiftOf_106 rfl ?_
              refine aw_istore hX dX5_bestShiftOf_108 (Nat.le_of_ble_eq_true rfl) ?_
              refine aw_iload hX dX5_bestShiftOf_110 rfl ?_
              refine aw_istore hX dX5_bestShiftOf_112 (Nat.le_of_ble_eq_true rfl) ?_
              refine aw_iinc hX (nI (k + 1)) dX5_bestShiftOf_114 rfl (nI_1 k) ?_
              refine aw_goto hX 23 dX5_bestShiftOf_117 (by decide) ?_
              exact hi
  refine aw_iconst hX (0) dX5_bestShiftOf_0 (by decide) ?_
  refine aw_istore_n hX dX5_bestShiftOf_1 (Nat.le_of_ble_eq_true rfl) ?_
  refine aw_ldc hX kk_X5_54 dX5_bestShiftOf_2 ?_
  refine aw_istore hX dX5_bestShiftOf_4 (Nat.le_of_ble_eq_true rfl) ?_
  refine aw_ldc hX kk_X5_54 dX5_bestShiftOf_6 ?_
  refine aw_istore hX dX5_bestShiftOf_8 (Nat.le_of_ble_eq_true rfl) ?_
  refine aw_getsN hX RX5 rfl (a := 3) (nm := "SHIFTS") (by decide) kn_X5_55 dX5_bestShiftOf_10 ?_
  refine aw_astore hX dX5_bestShiftOf_13 (Nat.le_of_ble_eq_true rfl) ?_
  refine aw_aload hX dX5_bestShiftOf_15 rfl ?_
  refine aw_rolen hX (nI 5) (a := 3) (by decide) rfl dX5_bestShiftOf_17 ?_
  refine aw_istore hX dX5_bestShiftOf_18 (Nat.le_of_ble_eq_true rfl) ?_
  refine aw_iconst hX (0) dX5_bestShiftOf_20 (by decide) ?_
  refine aw_istore hX dX5_bestShiftOf_21 (Nat.le_of_ble_eq_true rfl) ?_
  rw [← hset_self q1]
  exact loop 6 0 f0 _ _ _ (by decide) (by decide)
theorem tX5_drawAs (l : Launch) (E : EV) (n : Nat) (H : HState h p v) (hW : v.1.1 = nI W) (hW40 : W ≤ 40) (hS : WS v.2.2.1) (hm : m < v.2.2.1.2.2.2.2) {a : Nat} (hP : HPaint h a) (ha : a + 3 ≤ p ∨ p + 15 ≤ a) {w : Nat} (hw : w ≤ 1) : MX5_drawAs l E n h [.ref a, .ref p, .int (nI m), .int (nI w)] (fun r h' => r = none ∧ h' = hset h (a + 1) (cI 40 (pF W v.2.2.1 m (if w = 1 then bestF v W m else 0)))) := by
  have e := H
  have hq := hP
  have hb := bestF_in v W m
  obtain ⟨q0, ⟨f0, q1⟩, q2⟩ := hP
  by_cases hw1 : w = 1
  · subst hw1
    rw [if_pos rfl]
    refine AM.intro mf_X5_drawAs (by simp [Value.category]) (Nat.le_of_ble_eq_true rfl) (fun X hl hE hnm hX => ?_)
    subst hl
    subst hE
    show AW X _ _ 0 0 0 [some (.ref a), some (.ref p), some (.int (nI m)), some (.int (nI 1)), none] []
    refine aw_iload_n hX dX5_drawAs_0 rfl ?_
    refine aw_iconst hX (1) dX5_drawAs_1 (by decide) ?_
    refine aw_icmp_ne hX 14 dX5_drawAs_2 (by decide) (fun c_2 => ?_) (fun c_2 => ?_)
    · exact absurd rfl c_2
    · refine aw_aload_n hX dX5_drawAs_5 rfl ?_
      refine aw_aload_n hX dX5_drawAs_6 rfl ?_
      refine aw_iload_n hX dX5_drawAs_7 rfl ?_
      refine aw_callV0 hX RX5 rfl (tX5_bestShiftOf _ _ _ e hW hW40 hS hm hq ha) rfl mf_X5_bestShiftOf mi_X5_bestShiftOf ms_X5_bestShiftOf kl_X5_44 (by assumption) rfl rfl (by decide) (Nat.le_of_ble_eq_true rfl) dX5_drawAs_8 (by decide) (fun v_8 h_8 p_8 => ?_)
      obtain ⟨rfl, f, rfl⟩ := p_8
      have e := e.off (a := a + 1) (cI 40 f) (by omega)
      have q1 := hset_eq h (a + 1) (cI 40 f)
      have q0 : hset h (a + 1) (cI 40 f) a = some (cO 5 [.ref (a + 1), .ref (a + 2)]) := (hset_ne _ _ (by omega)).trans q0
      refine aw_goto hX 15 dX5_drawAs_11 (by decide) ?_
      refine aw_istore hX dX5_drawAs_15 (Nat.le_of_ble_eq_true rfl) ?_
      refine aw_aload_n hX dX5_drawAs_17 rfl ?_
      refine aw_aload_n hX dX5_drawAs_18 rfl ?_
      refine aw_iload_n hX dX5_drawAs_19 rfl ?_
      refine aw_iload hX dX5_drawAs_20 rfl ?_
      refine aw_aload_n hX dX5_drawAs_22 rfl ?_
      refine gt_X5_9 hX dX5_drawAs_23 (by assumption) (by exact rfl) ?_
      refine aw_callV0 hX RX5 rfl (tX5_draw _ _ _ e hW hW40 hS hm hb.1 hb.2 a q1 (by omega)) rfl mf_X5_draw mi_X5_draw ms_X5_draw kl_X5_48 (by assumption) rfl rfl (by decide) (Nat.le_of_ble_eq_true rfl) dX5_drawAs_26 (by decide) (fun v_26 h_26 p_26 => ?_)
      obtain ⟨rfl, rfl⟩ := p_26
      rw [hset_hset]
      exact aw_vret hX rfl rfl rfl rfl dX5_drawAs_29 (by exact ⟨rfl, rfl⟩)
  · have hw0 : w = 0 := by omega
    subst hw0
    rw [if_neg hw1]
    refine AM.intro mf_X5_drawAs (by simp [Value.category]) (Nat.le_of_ble_eq_true rfl) (fun X hl hE hnm hX => ?_)
    subst hl
    subst hE
    show AW X _ _ 0 0 0 [some (.ref a), some (.ref p), some (.int (nI m)), some (.int (nI 0)), none] []
    refine aw_iload_n hX dX5_drawAs_0 rfl ?_
    refine aw_iconst hX (1) dX5_drawAs_1 (by decide) ?_
    refine aw_icmp_ne hX 14 dX5_drawAs_2 (by decide) (fun c_2 => ?_) (fun c_2 => ?_)
    · refine aw_iconst hX (0) dX5_drawAs_14 (by decide) ?_
      refine aw_istore hX dX5_drawAs_15 (Nat.le_of_ble_eq_true rfl) ?_
      refine aw_aload_n hX dX5_drawAs_17 rfl ?_
      refine aw_aload_n hX dX5_drawAs_18 rfl ?_
      refine aw_iload_n hX dX5_drawAs_19 rfl ?_
      refine aw_iload hX dX5_drawAs_20 rfl ?_
      refine aw_aload_n hX dX5_drawAs_22 rfl ?_
      refine gt_X5_9 hX dX5_drawAs_23 (by assumption) (by exact rfl) ?_
      refine aw_callV0 hX RX5 rfl (tX5_draw _ _ _ e hW hW40 hS hm (s := 0) (by decide) (by decide) a q1 (by omega)) rfl mf_X5_draw mi_X5_draw ms_X5_draw kl_X5_48 (by assumption) rfl rfl (by decide) (Nat.le_of_ble_eq_true rfl) dX5_drawAs_26 (by decide) (fun v_26 h_26 p_26 => ?_)
      obtain ⟨rfl, rfl⟩ := p_26
      exact aw_vret hX rfl rfl rfl rfl dX5_drawAs_29 (by exact ⟨rfl, rfl⟩)
    · exact absurd c_2 (by decide)
end BEST
end
section
/-! Flipper -/
def dueP (v : PV) (j : Nat) : Int32 := if nI j < v.1.1 then (v.1.2.2.1 j ^^^ v.1.2.1 j) &&& (v.1.2.2.2.2.1 j ^^^ (-1)) else 0
/-- the columns with d due dots, from the left -/
def bkt (v : PV) (d c : Nat) : List Nat := (List.range c).filter (fun j => decide (bcF (dueP v j) = nI d))
def upL (v : PV) : Nat → List Nat
  | 0 => []
  | r + 1 => upL v r ++ bkt v (7 - r) 40
def ordF (v : PV) (o k : Nat) : Nat := if o = 2 then (upL v 8).getD k 0 else if o = 1 then 39 - k else k
/-- the dots of a column are tried, row by row, with u units -/
def fcF (due : Int32) (j : Nat) : Nat → Nat → PV → Nat → PV × Nat
  | 0, _, v, u => (v, u)
  | r + 1, i, v, u => if u = 0 then (v, u) else if due &&& mk i = 0 then fcF due j r (i + 1) v u else fcF due j r (i + 1) (tryF v j i) (u - 1)
/-- the columns in an order, with u units -/
def psF (o : Nat → Nat) : Nat → Nat → PV → Nat → PV × Nat
  | 0, _, v, u => (v, u)
  | r + 1, k, v, u => if u ≤ 1 then (v, u) else if dueP v (o k) = 0 then psF o r (k + 1) v u else psF o r (k + 1) (fcF (dueP v (o k)) (o k) 7 0 v (u - 1)).1 (fcF (dueP v (o k)) (o k) 7 0 v (u - 1)).2
/-- a second -/
def secF (v : PV) (P o : Nat) : PV :=
  ((psF (ordF v o) 40 0 v P).1.1, ((psF (ordF v o) 40 0 v P).1.2.1.1, (psF (ordF v o) 40 0 v P).1.2.1.2.1, v.2.1.2.2.1 + (nI P - nI (psF (ordF v o) 40 0 v P).2), v.2.1.2.2.2.1 + 1, upd v.2.1.2.2.2.2 (v.2.1.2.2.2.1 % 20) (nI P - nI (psF (ordF v o) 40 0 v P).2)), v.2.2)
/-- what a second leaves as it is until its end -/
def KP (v v' : PV) : Prop := v'.1.1 = v.1.1 ∧ v'.2.2 = v.2.2 ∧ v'.2.1.2.2 = v.2.1.2.2
theorem KP.tr {a b c : PV} (h : KP a b) (g : KP b c) : KP a c := ⟨g.1.trans h.1, g.2.1.trans h.2.1, g.2.2.trans h.2.2⟩
theorem KP.rf (a : PV) : KP a a := ⟨rfl, rfl, rfl⟩
theorem tryF_KP (v : PV) (j i : Nat) : KP v (tryF v j i) := by
  unfold tryF
  split <;> exact ⟨rfl, rfl, rfl⟩
theorem fcF_KP (due : Int32) (j : Nat) : ∀ (r i : Nat) (v : PV) (u : Nat), KP v (fcF due j r i v u).1 ∧ (fcF due j r i v u).2 ≤ u
  | 0, i, v, u => ⟨KP.rf v, Nat.le_refl _⟩
  | r + 1, i, v, u => by
    rw [fcF]
    split
    · exact ⟨KP.rf v, Nat.le_refl _⟩
    · split
      · exact fcF_KP due j r (i + 1) v u
      · have h := fcF_KP due j r (i + 1) (tryF v j i) (u - 1)
        exact ⟨(tryF_KP v j i).tr h.1, by omega⟩
theorem psF_KP (o : Nat → Nat) : ∀ (r k : Nat) (v : PV) (u : Nat), KP v (psF o r k v u).1 ∧ (psF o r k v u).2 ≤ u
  | 0, k, v, u => ⟨KP.rf v, Nat.le_refl _⟩
  | r + 1, k, v, u => by
    rw [psF]
    split
    · exact ⟨KP.rf v, Nat.le_refl _⟩
    · split
      · exact psF_KP o r (k + 1) v u
      · have h1 := fcF_KP (dueP v (o k)) (o k) 7 0 v (u - 1)
        have h2 := psF_KP o r (k + 1) (fcF (dueP v (o k)) (o k) 7 0 v (u - 1)).1 (fcF (dueP v (o k)) (o k) 7 0 v (u - 1)).2
        exact ⟨h1.1.tr h2.1, by omega⟩
def HFlip (h : HP) (a : Nat) : Prop := h a = some (cO 1 [.ref (a + 1)]) ∧ ∃ f, h (a + 1) = some (cI 40 f)
theorem HFlip.sm {h h' : HP} {a lo hi : Nat} (H : HFlip h a) (s : Sm lo hi h h') (hq : hi ≤ a ∨ a + 2 ≤ lo) : HFlip h' a :=
  ⟨(s.at (by omega)).trans H.1, H.2.choose, (s.at (by omega)).trans H.2.choose_spec⟩
theorem HFlip.a1 {h : HP} {a : Nat} (H : HFlip h a) (f : IF) : HFlip (hset h (a + 1) (cI 40 f)) a :=
  ⟨(hset_ne _ _ (by omega)).trans H.1, f, hset_eq _ _ _⟩
theorem upL_mono (v : PV) (r : Nat) : ∀ s, (upL v r).length ≤ (upL v (r + s)).length
  | 0 => Nat.le_refl _
  | s + 1 => by
    have h := upL_mono v r s
    show (upL v r).length ≤ (upL v (r + s) ++ bkt v (7 - (r + s)) 40).length
    rw [List.length_append]
    omega
theorem bkt_succ (v : PV) (d c : Nat) : bkt v d (c + 1) = if bcF (dueP v c) = nI d then bkt v d c ++ [c] else bkt v d c := by
  unfold bkt
  rw [List.range_succ, List.filter_append]
  split
  · rename_i h
    simp [h]
  · rename_i h
    simp [h]
theorem bkt_mono (v : PV) (d c : Nat) : ∀ s, (bkt v d c).length ≤ (bkt v d (c + s)).length
  | 0 => Nat.le_refl _
  | s + 1 => by
    have h := bkt_mono v d c s
    rw [← Nat.add_assoc, bkt_succ]
    split
    · rw [List.length_append]; omega
    · exact h
theorem getD_app {l : List Nat} {k x : Nat} (h : k < l.length) : (l ++ [x]).getD k 0 = l.getD k 0 := by
  rw [List.getD_eq_getElem?_getD, List.getD_eq_getElem?_getD, List.getElem?_append_left h]
theorem getD_app2 {l : List Nat} {x : Nat} : (l ++ [x]).getD l.length 0 = x := by
  rw [List.getD_eq_getElem?_getD, List.getElem?_append_right (Nat.le_refl _)]
  simp
theorem upd_snoc {f : IF} {l : List Nat} {c : Nat} (h : ∀ k, k < l.length → f k = nI (l.getD k 0)) : ∀ k, k < (l ++ [c]).length → upd f l.length (nI c) k = nI ((l ++ [c]).getD k 0) := fun k hk => by
  by_cases e : k = l.length
  · subst e
    rw [pk_us, getD_app2]
  · rw [List.length_append] at hk
    have hk2 : k < l.length := by
      have : k < l.length + 1 := hk
      omega
    rw [pk_un e, getD_app hk2]
    exact h k hk2
theorem lenlt {v : PV} {r c : Nat} (hlen : (upL v 8).length = 40) (hr : r ≤ 7) (hc : c < 40) (hs : bkt v (7 - r) (c + 1) = bkt v (7 - r) c ++ [c]) : (upL v r ++ bkt v (7 - r) c).length < 40 := by
  have h1 := upL_mono v (r + 1) (7 - r)
  rw [show r + 1 + (7 - r) = 8 by omega, hlen] at h1
  have h2 := bkt_mono v (7 - r) (c + 1) (40 - (c + 1))
  rw [show c + 1 + (40 - (c + 1)) = 40 by omega, hs, List.length_append] at h2
  have h3 : (upL v (r + 1)).length = (upL v r).length + (bkt v (7 - r) 40).length := by
    show (upL v r ++ bkt v (7 - r) 40).length = _
    rw [List.length_append]
  rw [List.length_append]
  have h4 : [c].length = 1 := rfl
  omega
theorem dueP_w {v : PV} {j : Nat} (h : ¬ dueP v j = 0) : nI j < v.1.1 := by
  unfold dueP at h
  split at h
  · assumption
  · exact absurd rfl h
section FLIP
variable {h : HP} {p a : Nat} {v : PV}
theorem tX1_arrangeByDueDots (l : Launch) (E : EV) (n : Nat) (H : HD h p v.1) {f : IF} (ha : h a = some (cO 1 [.ref (a + 1)])) (hf : h (a + 1) = some (cI 40 f)) (hd : a + 2 ≤ p ∨ p + 6 ≤ a) (hlen : (upL v 8).length = 40) : MX1_arrangeByDueDots l E n h [.ref a, .ref p] (fun r h' => r = none ∧ h' = hset h (a + 1) (cI 40 (nF (fun k => (upL v 8).getD k 0)))) := by
  have d0 := H.1
  refine AM.intro mf_X1_arrangeByDueDots (by simp [Value.category]) (Nat.le_of_ble_eq_true rfl) (fun X hl hE hnm hX => ?_)
  subst hl
  subst hE
  show AW X _ _ 0 0 0 [some (.ref a), some (.ref p), none, none, none, none] []
  have inner : ∀ (g r c : Nat) (f : IF) (x : Option Value) (_ : ∀ (f : IF) (y z : Option Value), (∀ k, k < (upL v (r + 1)).length → f k = nI ((upL v (r + 1)).getD k 0)) → AW X n (hset h (a + 1) (cI 40 f)) 0 0 5 [some (.ref a), some (.ref p), some (.int (nI (upL v (r + 1)).length)), some (.int (iI (7 - ((r + 1 : Nat) : Int)))), y, z] []), r ≤ 7 → c ≤ 40 → 40 - c < g → (∀ k, k < (upL v r ++ bkt v (7 - r) c).length → f k = nI ((upL v r ++ bkt v (7 - r) c).getD k 0)) → AW X n (hset h (a + 1) (cI 40 f)) 0 0 12 [some (.ref a), some (.ref p), some (.int (nI (upL v r ++ bkt v (7 - r) c).length)), some (.int (iI (7 - (r : Int)))), some (.int (nI c)), x] [] := by
    intro g
    induction g with
    | zero => intro r c f x kk h1 h2 h3; omega
    | succ g ih =>
      intro r c f x kk h1 h2 h3 h4
      have H' : HD (hset h (a + 1) (cI 40 f)) p v.1 := HDots.off H _ (by omega)
      have e0 := H'.1
      have ea := (hset_ne h (q := a) (a := a + 1) (cI 40 f) (by omega)).trans ha
      have eb := hset_eq h (a + 1) (cI 40 f)
      have e7 : iI (7 - (r : Int)) = nI (7 - r) := by rw [iI_n]; congr 1; omega
      refine aw_iload hX dX1_arrangeByDueDots_12 rfl ?_
      refine aw_bipush hX (40) dX1_arrangeByDueDots_14 (by decide) ?_
      refine aw_icmp_ge hX 67 dX1_arrangeByDueDots_16 (by decide) (fun c_16 => ?_) (fun c_16 => ?_)
      · have hc : c = 40 := lp_out h2 (by decide) c_16
        subst hc
        refine aw_iinc hX (iI (7 - ((r + 1 : Nat) : Int))) dX1_arrangeByDueDots_67 rfl (by show iI (7 - (r : Int)) + iI (-1) = _; rw [iI_add]; congr 1; omega) ?_
        refine aw_goto hX 5 dX1_arrangeByDueDots_70 (by decide) ?_
        exact kk f _ _ h4
      · have hc : c < 40 := lp_in h2 (by decide) c_16
        refine aw_aload_n hX dX1_arrangeByDueDots_19 rfl ?_
        refine aw_iload hX dX1_arrangeByDueDots_20 rfl ?_
        refine aw_callVp hX RX1 rfl (tX0_dueBits _ _ _ H' hc) rfl mf_X0_dueBits mi_X0_dueBits ms_X0_dueBits kl_X1_28 (by assumption) rfl rfl (by decide) (Nat.le_of_ble_eq_true rfl) dX1_arrangeByDueDots_22 (by decide) ?_
        refine aw_callSp hX RX1 rfl (tJ6_bitCount _ _ _ _ _) rfl mf_J6_bitCount_0f7a4 mt_J6_bitCount_0f7a4 kl_X1_56 rfl (by decide) (Nat.le_of_ble_eq_true rfl) dX1_arrangeByDueDots_25 (by decide) ?_
        refine aw_iload_n hX dX1_arrangeByDueDots_28 rfl ?_
        refine aw_icmp_ne hX 36 dX1_arrangeByDueDots_29 (by decide) (fun c_29 => ?_) (fun c_29 => ?_)
        · have hs := bkt_succ v (7 - r) c
          rw [if_neg (fun q => c_29 (q.trans e7.symm))] at hs
          refine aw_iconst hX (0) dX1_arrangeByDueDots_36 (by decide) ?_
          refine aw_istore hX dX1_arrangeByDueDots_37 (Nat.le_of_ble_eq_true rfl) ?_
          refine aw_iload hX dX1_arrangeByDueDots_39 rfl ?_
          refine aw_if_eq hX 61 dX1_arrangeByDueDots_41 (by decide) (fun _ => ?_) (fun c_41 => absurd rfl c_41)
          refine aw_iinc hX (nI (c + 1)) dX1_arrangeByDueDots_61 rfl (nI_1 c) ?_
          refine aw_goto hX 12 dX1_arrangeByDueDots_64 (by decide) ?_
          have hi := ih r (c + 1) f (some (.int 0)) kk h1 hc (by omega) (by rw [hs]; exact h4)
          rw [hs] at hi
          exact hi
        · have hs := bkt_succ v (7 - r) c
          rw [if_pos (show bcF (dueP v c) = nI (7 - r) from Eq.trans c_29 e7)] at hs
          have hll : (upL v r ++ bkt v (7 - r) c).length < 40 := lenlt hlen h1 hc hs
          refine aw_iconst hX (1) dX1_arrangeByDueDots_32 (by decide) ?_
          refine aw_goto hX 37 dX1_arrangeByDueDots_33 (by decide) ?_
          refine aw_istore hX dX1_arrangeByDueDots_37 (Nat.le_of_ble_eq_true rfl) ?_
          refine aw_iload hX dX1_arrangeByDueDots_39 rfl ?_
          refine aw_if_eq hX 61 dX1_arrangeByDueDots_41 (by decide) (fun c_41 => absurd c_41 (by decide)) (fun _ => ?_)
          refine aw_iload_n hX dX1_arrangeByDueDots_44 rfl ?_
          refine aw_bipush hX (40) dX1_arrangeByDueDots_45 (by decide) ?_
          refine aw_icmp_ge hX 61 dX1_arrangeByDueDots_47 (by decide) (fun c_47 => absurd c_47 (nI_ge hll (by decide))) (fun _ => ?_)
          refine aw_aload_n hX dX1_arrangeByDueDots_50 rfl ?_
          refine gt_X1_9 hX dX1_arrangeByDueDots_51 ea (by exact rfl) ?_
          refine aw_iload_n hX dX1_arrangeByDueDots_54 rfl ?_
          refine aw_iload hX dX1_arrangeByDueDots_55 rfl ?_
          refine aw_iastN hX (upL v r ++ bkt v (7 - r) c).length eb rfl hll (by decide) dX1_arrangeByDueDots_57 ?_
          rw [hset_hset]
          refine aw_iinc hX (nI ((upL v r ++ bkt v (7 - r) c).length + 1)) dX1_arrangeByDueDots_58 rfl (nI_1 _) ?_
          refine aw_iinc hX (nI (c + 1)) dX1_arrangeByDueDots_61 rfl (nI_1 c) ?_
          refine aw_goto hX 12 dX1_arrangeByDueDots_64 (by decide) ?_
          have hap : upL v r ++ bkt v (7 - r) (c + 1) = (upL v r ++ bkt v (7 - r) c) ++ [c] := by rw [hs, List.append_assoc]
          have hi := ih r (c + 1) (upd f (upL v r ++ bkt v (7 - r) c).length (nI c)) (some (.int 1)) kk h1 hc (by omega) (by rw [hap]; exact upd_snoc h4)
          have hl2 : ((upL v r ++ bkt v (7 - r) c) ++ [c]).length = (upL v r ++ bkt v (7 - r) c).length + 1 := by rw [List.length_append (as := upL v r ++ bkt v (7 - r) c)]; rfl
          rw [hap, hl2] at hi
          exact hi
  have loop : ∀ (g r : Nat) (f : IF) (y z : Option Value), r ≤ 8 → 8 - r < g → (∀ k, k < (upL v r).length → f k = nI ((upL v r).getD k 0)) → AW X n (hset h (a + 1) (cI 40 f)) 0 0 5 [some (.ref a), some (.ref p), some (.int (nI (upL v r).length)), some (.int (iI (7 - (r : Int)))), y, z] [] := by
    intro g
    induction g with
    | zero => intro r f y z h1 h2; omega
    | succ g ih =>
      intro r f y z h1 h2 h3
      have eb := hset_eq h (a + 1) (cI 40 f)
      have hlt : iI (7 - (r : Int)) < 0 ↔ 7 - (r : Int) < 0 := iI_lt (b := 0) (by omega) (by omega) (by decide) (by decide)
      refine aw_iload_n hX dX1_arrangeByDueDots_5 rfl ?_
      refine aw_if_lt hX 73 dX1_arrangeByDueDots_6 (by decide) (fun c_6 => ?_) (fun c_6 => ?_)
      · have hr : r = 8 := by have q := hlt.mp c_6; omega
        subst hr
        refine AW.ext (nF (fun k => (upL v 8).getD k 0)) eb (fun i hi => h3 i (by omega)) ?_
        rw [hset_hset]
        exact aw_vret hX rfl rfl rfl rfl dX1_arrangeByDueDots_73 ⟨rfl, rfl⟩
      · have hr : r ≤ 7 := by have q : ¬ 7 - (r : Int) < 0 := fun q => c_6 (hlt.mpr q); omega
        refine aw_iconst hX (0) dX1_arrangeByDueDots_9 (by decide) ?_
        refine aw_istore hX dX1_arrangeByDueDots_10 (Nat.le_of_ble_eq_true rfl) ?_
        have hi := inner 41 r 0 f z (fun f y z hf => ih (r + 1) f y z (by omega) (by omega) hf) hr (by decide) (by decide) (by intro k hk; rw [show bkt v (7 - r) 0 = [] from rfl, List.append_nil] at hk ⊢; exact h3 k hk)
        rw [show bkt v (7 - r) 0 = [] from rfl, List.append_nil] at hi
        exact hi
  refine aw_iconst hX (0) dX1_arrangeByDueDots_0 (by decide) ?_
  refine aw_istore_n hX dX1_arrangeByDueDots_1 (Nat.le_of_ble_eq_true rfl) ?_
  refine aw_bipush hX (7) dX1_arrangeByDueDots_2 (by decide) ?_
  refine aw_istore_n hX dX1_arrangeByDueDots_4 (Nat.le_of_ble_eq_true rfl) ?_
  rw [← hset_self hf]
  exact loop 9 0 f _ _ (by decide) (by decide) (fun k hk => absurd hk (Nat.not_lt_zero k))
theorem tX1_arrange (l : Launch) (E : EV) (n : Nat) (H : HD h p v.1) (hF : HFlip h a) (hd : a + 2 ≤ p ∨ p + 6 ≤ a) (hlen : (upL v 8).length = 40) {o : Nat} (ho : o ≤ 2) : MX1_arrange l E n h [.ref a, .ref p, .int (nI o)] (fun r h' => r = none ∧ h' = hset h (a + 1) (cI 40 (nF (ordF v o)))) := by
  have d0 := H.1
  obtain ⟨ha, f0, hf⟩ := hF
  by_cases h2 : o = 2
  · subst h2
    refine AM.intro mf_X1_arrange (by simp [Value.category]) (Nat.le_of_ble_eq_true rfl) (fun X hl hE hnm hX => ?_)
    subst hl
    subst hE
    show AW X _ _ 0 0 0 [some (.ref a), some (.ref p), some (.int (nI 2)), none] []
    refine aw_iload_n hX dX1_arrange_0 rfl ?_
    refine aw_iconst hX (2) dX1_arrange_1 (by decide) ?_
    refine aw_icmp_ne hX 11 dX1_arrange_2 (by decide) (fun c_2 => ?_) (fun c_2 => ?_)
    · exact absurd rfl c_2
    · refine aw_aload_n hX dX1_arrange_5 rfl ?_
      refine aw_aload_n hX dX1_arrange_6 rfl ?_
      refine aw_callV0 hX RX1 rfl (tX1_arrangeByDueDots (v := v) _ _ _ H ha hf hd hlen) rfl mf_X1_arrangeByDueDots mi_X1_arrangeByDueDots ms_X1_arrangeByDueDots kl_X1_52 (by assumption) rfl rfl (by decide) (Nat.le_of_ble_eq_true rfl) dX1_arrange_7 (by decide) (fun v_7 h_7 p_7 => ?_)
      obtain ⟨rfl, rfl⟩ := p_7
      exact aw_vret hX rfl rfl rfl rfl dX1_arrange_10 (by exact ⟨rfl, rfl⟩)
  · have h2' : ¬ nI o = 2 := fun q => h2 ((nI_eq (a := o) (b := 2) (by omega) (by decide)).mp q)
    refine AM.intro mf_X1_arrange (by simp [Value.category]) (Nat.le_of_ble_eq_true rfl) (fun X hl hE hnm hX => ?_)
    subst hl
    subst hE
    show AW X _ _ 0 0 0 [some (.ref a), some (.ref p), some (.int (nI o)), none] []
    have loop : ∀ (g k : Nat) (f : IF), k ≤ 40 → 40 - k < g → (∀ i, i < k → f i = nI (ordF v o i)) → AW X n (hset h (a + 1) (cI 40 f)) 0 0 13 [some (.ref a), some (.ref p), some (.int (nI o)), some (.int (nI k))] [] := by
      intro g
      induction g with
      | zero => intro k f h1 h2; omega
      | succ g ih =>
        intro k f h1 h3 h4
        have ea := (hset_ne h (q := a) (a := a + 1) (cI 40 f) (by omega)).trans ha
        have eb := hset_eq h (a + 1) (cI 40 f)
        refine aw_iload_n hX dX1_arrange_13 rfl ?_
        refine aw_bipush hX (40) dX1_arrange_14 (by decide) ?_
        refine aw_icmp_ge hX 44 dX1_arrange_16 (by decide) (fun c_16 => ?_) (fun c_16 => ?_)
        · have hk : k = 40 := lp_out h1 (by decide) c_16
          subst hk
          refine AW.ext (nF (ordF v o)) eb (fun i hi => h4 i hi) ?_
          rw [hset_hset]
          exact aw_vret hX rfl rfl rfl rfl dX1_arrange_44 ⟨rfl, rfl⟩
        · have hk : k < 40 := lp_in h1 (by decide) c_16
          refine aw_aload_n hX dX1_arrange_19 rfl ?_
          refine gt_X1_9 hX dX1_arrange_20 (by assumption) (by exact rfl) ?_
          refine aw_iload_n hX dX1_arrange_23 rfl ?_
          refine aw_iload_n hX dX1_arrange_24 rfl ?_
          refine aw_iconst hX (1) dX1_arrange_25 (by decide) ?_
          refine aw_icmp_ne hX 36 dX1_arrange_26 (by decide) (fun c_26 => ?_) (fun c_26 => ?_)
          · refine aw_iload_n hX dX1_arrange_36 rfl ?_
            have ho1 : ¬ o = 1 := fun q => c_26 (by rw [q]; rfl)
            refine AW.top (y := nI (ordF v o k)) (by rw [ordF, if_neg h2, if_neg ho1]) ?_
            refine aw_iastN hX (k) (by assumption) rfl hk (by first | decide | assumption) dX1_arrange_37 ?_
            rw [hset_hset]
            refine aw_iinc hX (nI (k + 1)) dX1_arrange_38 rfl (nI_1 k) ?_
            refine aw_goto hX 13 dX1_arrange_41 (by decide) ?_
            exact ih (k + 1) _ hk (by omega) (upd_lo2 (f := nF (ordF v o)) h4)
          · refine aw_bipush hX (39) dX1_arrange_29 (by decide) ?_
            refine aw_iload_n hX dX1_arrange_31 rfl ?_
            refine aw_isub hX dX1_arrange_32 ?_
            have hx : 39 - nI k = nI (39 - k) := pk_sub (a := 39) (by omega)
            have ho1 : o = 1 := (nI_eq (a := o) (b := 1) (by omega) (by decide)).mp c_26
            rw [hx, show 39 - k = ordF v o k by rw [ordF, if_neg h2, if_pos ho1]]
            refine aw_goto hX 37 dX1_arrange_33 (by decide) ?_
            refine aw_iastN hX (k) (by assumption) rfl hk (by first | decide | assumption) dX1_arrange_37 ?_
            rw [hset_hset]
            refine aw_iinc hX (nI (k + 1)) dX1_arrange_38 rfl (nI_1 k) ?_
            refine aw_goto hX 13 dX1_arrange_41 (by decide) ?_
            exact ih (k + 1) _ hk (by omega) (upd_lo2 (f := nF (ordF v o)) h4)
    refine aw_iload_n hX dX1_arrange_0 rfl ?_
    refine aw_iconst hX (2) dX1_arrange_1 (by decide) ?_
    refine aw_icmp_ne hX 11 dX1_arrange_2 (by decide) (fun c_2 => ?_) (fun c_2 => ?_)
    · refine aw_iconst hX (0) dX1_arrange_11 (by decide) ?_
      refine aw_istore_n hX dX1_arrange_12 (Nat.le_of_ble_eq_true rfl) ?_
      rw [← hset_self hf]
      exact loop 41 0 f0 (by decide) (by decide) (fun i hi => absurd hi (Nat.not_lt_zero i))
    · exact absurd c_2 h2'
theorem tX1_flipColumn (l : Launch) (E : EV) (n : Nat) (H : HState h p v) {W : Nat} (hW : v.1.1 = nI W) (a : Nat) {j u : Nat} (hj : j < 40) (hjw : nI j < v.1.1) (hu : u ≤ 50) : MX1_flipColumn l E n h [.ref a, .ref p, .int (nI j), .int (nI u)] (fun r h' => r = some (.int (nI (fcF (dueP v j) j 7 0 v u).2)) ∧ HState h' p (fcF (dueP v j) j 7 0 v u).1 ∧ Sm p (p + 15) h h') := by
  obtain ⟨e0, e1, e2, e3, e4⟩ := id H
  have d0 := e1.1
  refine AM.intro mf_X1_flipColumn (by simp [Value.category]) (Nat.le_of_ble_eq_true rfl) (fun X hl hE hnm hX => ?_)
  subst hl
  subst hE
  show AW X _ _ 0 0 0 [some (.ref a), some (.ref p), some (.int (nI j)), some (.int (nI u)), none, none, none] []
  have loop : ∀ (r i y : Nat) (vv : PV) (hh : HP), i + r = 7 → y ≤ u → HState hh p vv → Sm p (p + 15) h hh → KP v vv → fcF (dueP v j) j 7 0 v u = fcF (dueP v j) j r i vv y → AW X n hh 0 0 16 [some (.ref a), some (.ref p), some (.int (nI j)), some (.int (nI u)), some (.int (nI y)), some (.int (dueP v j)), some (.int (nI i))] [] := by
    intro r
    induction r with
    | zero =>
      intro i y vv hh h1 h2 H' sm kp hq
      have hi : i = 7 := by omega
      subst hi
      replace hq := hq.trans (show fcF (dueP v j) j 0 7 vv y = (vv, y) from rfl)
      rw [hq] at hX
      refine aw_iload hX dX1_flipColumn_16 rfl ?_
      refine aw_bipush hX (7) dX1_flipColumn_18 (by decide) ?_
      refine aw_icmp_ge hX 54 dX1_flipColumn_20 (by decide) (fun c_20 => ?_) (fun c_20 => ?_)
      · refine aw_iload hX dX1_flipColumn_54 rfl ?_
        exact aw_iret hX rfl rfl rfl rfl dX1_flipColumn_56 (by exact ⟨rfl, H', sm⟩)
      · exact absurd (Int32.le_refl 7) c_20
    | succ r ih =>
      intro i y vv hh h1 h2 H' sm kp hq
      have hi : i < 7 := by omega
      have s0 := H'.1
      have hy0 : nI y ≤ 0 ↔ y = 0 := by
        have := nI_leI (a := y) (b := 0) (by omega) (by decide)
        exact this.trans (by omega)
      replace hq := hq.trans (show fcF (dueP v j) j (r + 1) i vv y = if y = 0 then (vv, y) else if dueP v j &&& mk i = 0 then fcF (dueP v j) j r (i + 1) vv y else fcF (dueP v j) j r (i + 1) (tryF vv j i) (y - 1) from rfl)
      refine aw_iload hX dX1_flipColumn_16 rfl ?_
      refine aw_bipush hX (7) dX1_flipColumn_18 (by decide) ?_
      refine aw_icmp_ge hX 54 dX1_flipColumn_20 (by decide) (fun c_20 => ?_) (fun c_20 => ?_)
      · exact absurd c_20 (nI_ge hi (by decide))
      · refine aw_iload hX dX1_flipColumn_23 rfl ?_
        refine aw_if_le hX 54 dX1_flipColumn_25 (by decide) (fun c_25 => ?_) (fun c_25 => ?_)
        · rw [if_pos (hy0.mp c_25)] at hq
          rw [hq] at hX
          refine aw_iload hX dX1_flipColumn_54 rfl ?_
          exact aw_iret hX rfl rfl rfl rfl dX1_flipColumn_56 ⟨rfl, H', sm⟩
        · have hy : ¬ y = 0 := fun q => c_25 (hy0.mpr q)
          rw [if_neg hy] at hq
          refine aw_iload hX dX1_flipColumn_28 rfl ?_
          refine aw_iconst hX (1) dX1_flipColumn_30 (by decide) ?_
          refine aw_iload hX dX1_flipColumn_31 rfl ?_
          refine aw_ishl hX dX1_flipColumn_33 ?_
          refine aw_iand hX dX1_flipColumn_34 ?_
          refine aw_if_eq hX 48 dX1_flipColumn_35 (by decide) (fun c_35 => ?_) (fun c_35 => ?_)
          · rw [if_pos (show dueP v j &&& mk i = 0 from c_35)] at hq
            refine aw_iinc hX (nI (i + 1)) dX1_flipColumn_48 rfl (nI_1 i) ?_
            refine aw_goto hX 16 dX1_flipColumn_51 (by decide) ?_
            exact ih (i + 1) y vv hh (by omega) h2 H' sm kp hq
          · rw [if_neg (show ¬ dueP v j &&& mk i = 0 from c_35)] at hq
            refine aw_aload_n hX dX1_flipColumn_38 rfl ?_
            refine aw_iload_n hX dX1_flipColumn_39 rfl ?_
            refine aw_iload hX dX1_flipColumn_40 rfl ?_
            refine aw_callV0 hX RX1 rfl (tX8_tryDot _ _ _ H' hj (by rw [kp.1]; exact hjw) hi) rfl mf_X8_tryDot mi_X8_tryDot ms_X8_tryDot kl_X1_48 (by assumption) rfl rfl (by decide) (Nat.le_of_ble_eq_true rfl) dX1_flipColumn_42 (by decide) (fun v_42 h_42 p_42 => ?_)
            obtain ⟨rfl, H2, sm2⟩ := p_42
            refine aw_iinc hX (nI (y - 1)) dX1_flipColumn_45 rfl (sb_m1 (by omega)) ?_
            refine aw_iinc hX (nI (i + 1)) dX1_flipColumn_48 rfl (nI_1 i) ?_
            refine aw_goto hX 16 dX1_flipColumn_51 (by decide) ?_
            exact ih (i + 1) (y - 1) _ _ (by omega) (by omega) H2 (sm.tr sm2 (Nat.le_refl _) (Nat.le_refl _)) (kp.tr (tryF_KP vv j i)) hq
  refine aw_iload_n hX dX1_flipColumn_0 rfl ?_
  refine aw_istore hX dX1_flipColumn_1 (Nat.le_of_ble_eq_true rfl) ?_
  refine aw_aload_n hX dX1_flipColumn_3 rfl ?_
  refine gt_X1_20 hX dX1_flipColumn_4 (by assumption) (by exact rfl) ?_
  refine aw_iload_n hX dX1_flipColumn_7 rfl ?_
  refine aw_callVp hX RX1 rfl (tX0_dueBits _ _ _ e1 hj) rfl mf_X0_dueBits mi_X0_dueBits ms_X0_dueBits kl_X1_28 (by assumption) rfl rfl (by decide) (Nat.le_of_ble_eq_true rfl) dX1_flipColumn_8 (by decide) ?_
  refine aw_istore hX dX1_flipColumn_11 (Nat.le_of_ble_eq_true rfl) ?_
  refine aw_iconst hX (0) dX1_flipColumn_13 (by decide) ?_
  refine aw_istore hX dX1_flipColumn_14 (Nat.le_of_ble_eq_true rfl) ?_
  exact loop 7 0 u v h rfl (Nat.le_refl _) H Sm.rf (KP.rf v) rfl
theorem tX1_passSecond (l : Launch) (E : EV) (n : Nat) (H : HState h p v) {W : Nat} (hW : v.1.1 = nI W) (hF : HFlip h a) (hd : a + 2 ≤ p ∨ p + 15 ≤ a) (hlen : (upL v 8).length = 40) {P o : Nat} (hP : v.2.2.2 0 = nI P) (ho : v.2.2.2 1 = nI o) (hP50 : P ≤ 50) (ho2 : o ≤ 2) (hT : v.2.1.2.2.2.1 < 2 ^ 30) (hO : ∀ k, k < 40 → ordF v o k < 40) : MX1_passSecond l E n h [.ref a, .ref p] (fun r h' => r = none ∧ HState h' p (secF v P o) ∧ ∃ f, Sm p (p + 15) (hset h (a + 1) (cI 40 f)) h') := by
  obtain ⟨e0, e1, e2, e3, e4⟩ := id H
  obtain ⟨f0, f1, f2⟩ := id hF
  refine AM.intro mf_X1_passSecond (by simp [Value.category]) (Nat.le_of_ble_eq_true rfl) (fun X hl hE hnm hX => ?_)
  subst hl
  subst hE
  show AW X _ _ 0 0 0 [some (.ref a), some (.ref p), none, none, none, none] []
  have hA := H.off (a := a + 1) (cI 40 (nF (ordF v o))) (by omega)
  have loop : ∀ (r k y : Nat) (x : Option Value) (vv : PV) (hh : HP), k + r = 40 → y ≤ P → HState hh p vv → Sm p (p + 15) (hset h (a + 1) (cI 40 (nF (ordF v o)))) hh → KP v vv → psF (ordF v o) 40 0 v P = psF (ordF v o) r k vv y → AW X n hh 0 0 26 [some (.ref a), some (.ref p), some (.int (nI P)), some (.int (nI y)), some (.int (nI k)), x] [] := by
    have fin : ∀ (k y : Nat) (x : Option Value) (vv : PV) (hh : HP), HState hh p vv → Sm p (p + 15) (hset h (a + 1) (cI 40 (nF (ordF v o)))) hh → KP v vv → y ≤ P → psF (ordF v o) 40 0 v P = (vv, y) → AW X n hh 0 0 76 [some (.ref a), some (.ref p), some (.int (nI P)), some (.int (nI y)), some (.int (nI k)), x] [] := by
      intro k y x vv hh H' sm kp hy hq
      obtain ⟨e0, e1, e2, e3, e4⟩ := id H'
      have m0 := e2.1
      refine aw_aload_n hX dX1_passSecond_76 rfl ?_
      refine gt_X1_38 hX dX1_passSecond_77 (by assumption) (by exact rfl) ?_
      refine aw_iload_n hX dX1_passSecond_80 rfl ?_
      refine aw_iload_n hX dX1_passSecond_81 rfl ?_
      refine aw_isub hX dX1_passSecond_82 ?_
      refine aw_callV0 hX RX1 rfl (tX3_addSecond _ _ _ e2 (by rw [kp.2.2]; exact hT) _) rfl mf_X3_addSecond mi_X3_addSecond ms_X3_addSecond kl_X1_42 (by assumption) rfl rfl (by decide) (Nat.le_of_ble_eq_true rfl) dX1_passSecond_83 (by decide) (fun v_83 h_83 p_83 => ?_)
      obtain ⟨rfl, H2, sm2⟩ := p_83
      exact aw_vret hX rfl rfl rfl rfl dX1_passSecond_86 (by have H3 := H'.meter (v' := (vv.2.1.1, vv.2.1.2.1, vv.2.1.2.2.1 + (nI P - nI y), vv.2.1.2.2.2.1 + 1, upd vv.2.1.2.2.2.2 (vv.2.1.2.2.2.1 % 20) (nI P - nI y))) H2 sm2; have hs : secF v P o = (vv.1, (vv.2.1.1, vv.2.1.2.1, vv.2.1.2.2.1 + (nI P - nI y), vv.2.1.2.2.2.1 + 1, upd vv.2.1.2.2.2.2 (vv.2.1.2.2.2.1 % 20) (nI P - nI y)), vv.2.2) := (by rw [secF, hq, kp.2.2, kp.2.1]); rw [hs]; exact ⟨rfl, H3, _, sm.tr sm2 (by omega) (by omega)⟩)
    intro r
    induction r with
    | zero =>
      intro k y x vv hh h1 h2 H' sm kp hq
      have hk : k = 40 := by omega
      subst hk
      replace hq := hq.trans (show psF (ordF v o) 0 40 vv y = (vv, y) from rfl)
      refine aw_iload hX dX1_passSecond_26 rfl ?_
      refine aw_bipush hX (40) dX1_passSecond_28 (by decide) ?_
      refine aw_icmp_ge hX 76 dX1_passSecond_30 (by decide) (fun c_30 => ?_) (fun c_30 => ?_)
      · exact fin _ _ _ _ _ H' sm kp h2 hq
      · exact absurd (Int32.le_refl 40) c_30
    | succ r ih =>
      intro k y x vv hh h1 h2 H' sm kp hq
      have hk : k < 40 := by omega
      have hy1 : nI y ≤ 1 ↔ y ≤ 1 := nI_leI (a := y) (b := 1) (by omega) (by decide)
      have fa : hh a = some (cO 1 [.ref (a + 1)]) := (sm.at (by omega)).trans ((hset_ne _ _ (by omega)).trans f0)
      have fb : hh (a + 1) = some (cI 40 (nF (ordF v o))) := (sm.at (by omega)).trans (hset_eq _ _ _)
      have s0 := H'.1
      have d0 := H'.2.1.1
      replace hq := hq.trans (show psF (ordF v o) (r + 1) k vv y = if y ≤ 1 then (vv, y) else if dueP vv (ordF v o k) = 0 then psF (ordF v o) r (k + 1) vv y else psF (ordF v o) r (k + 1) (fcF (dueP vv (ordF v o k)) (ordF v o k) 7 0 vv (y - 1)).1 (fcF (dueP vv (ordF v o k)) (ordF v o k) 7 0 vv (y - 1)).2 from rfl)
      refine aw_iload hX dX1_passSecond_26 rfl ?_
      refine aw_bipush hX (40) dX1_passSecond_28 (by decide) ?_
      refine aw_icmp_ge hX 76 dX1_passSecond_30 (by decide) (fun c_30 => ?_) (fun c_30 => ?_)
      · exact absurd c_30 (nI_ge hk (by decide))
      · refine aw_iload_n hX dX1_passSecond_33 rfl ?_
        refine aw_iconst hX (1) dX1_passSecond_34 (by decide) ?_
        refine aw_icmp_le hX 76 dX1_passSecond_35 (by decide) (fun c_35 => ?_) (fun c_35 => ?_)
        · rw [if_pos (hy1.mp c_35)] at hq
          exact fin _ _ _ _ _ H' sm kp h2 hq
        · have hy : ¬ y ≤ 1 := fun q => c_35 (hy1.mpr q)
          rw [if_neg hy] at hq
          refine aw_aload_n hX dX1_passSecond_38 rfl ?_
          refine gt_X1_9 hX dX1_passSecond_39 (by assumption) (by exact rfl) ?_
          refine aw_iload hX dX1_passSecond_42 rfl ?_
          refine aw_ialdN hX (k) (by assumption) rfl hk (by first | decide | assumption) dX1_passSecond_44 ?_
          refine aw_istore hX dX1_passSecond_45 (Nat.le_of_ble_eq_true rfl) ?_
          refine aw_aload_n hX dX1_passSecond_47 rfl ?_
          refine gt_X1_20 hX dX1_passSecond_48 (by assumption) (by exact rfl) ?_
          refine aw_iload hX dX1_passSecond_51 rfl ?_
          refine aw_callVp hX RX1 rfl (tX0_dueBits _ _ _ H'.2.1 (hO k hk)) rfl mf_X0_dueBits mi_X0_dueBits ms_X0_dueBits kl_X1_28 (by assumption) rfl rfl (by decide) (Nat.le_of_ble_eq_true rfl) dX1_passSecond_53 (by decide) ?_
          refine aw_if_eq hX 70 dX1_passSecond_56 (by decide) (fun c_56 => ?_) (fun c_56 => ?_)
          · rw [if_pos (show dueP vv (ordF v o k) = 0 from c_56)] at hq
            refine aw_iinc hX (nI (k + 1)) dX1_passSecond_70 rfl (nI_1 k) ?_
            refine aw_goto hX 26 dX1_passSecond_73 (by decide) ?_
            exact ih (k + 1) y _ vv hh (by omega) h2 H' sm kp hq
          · rw [if_neg (show ¬ dueP vv (ordF v o k) = 0 from c_56)] at hq
            have hw : nI (ordF v o k) < vv.1.1 := dueP_w c_56
            refine aw_aload_n hX dX1_passSecond_59 rfl ?_
            refine aw_aload_n hX dX1_passSecond_60 rfl ?_
            refine aw_iload hX dX1_passSecond_61 rfl ?_
            refine aw_iload_n hX dX1_passSecond_63 rfl ?_
            refine aw_iconst hX (1) dX1_passSecond_64 (by decide) ?_
            refine aw_isub hX dX1_passSecond_65 ?_
            have hx : nI y - 1 = nI (y - 1) := pk_sub (b := 1) (by omega)
            rw [hx]
            refine aw_callV0 hX RX1 rfl (tX1_flipColumn _ _ _ H' (kp.1.trans hW) a (hO k hk) hw (by omega)) rfl mf_X1_flipColumn mi_X1_flipColumn ms_X1_flipColumn kl_X1_34 (by assumption) rfl rfl (by decide) (Nat.le_of_ble_eq_true rfl) dX1_passSecond_66 (by decide) (fun v_66 h_66 p_66 => ?_)
            obtain ⟨rfl, H2, sm2⟩ := p_66
            have kq := fcF_KP (dueP vv (ordF v o k)) (ordF v o k) 7 0 vv (y - 1)
            refine aw_istore_n hX dX1_passSecond_69 (Nat.le_of_ble_eq_true rfl) ?_
            refine aw_iinc hX (nI (k + 1)) dX1_passSecond_70 rfl (nI_1 k) ?_
            refine aw_goto hX 26 dX1_passSecond_73 (by decide) ?_
            exact ih (k + 1) _ _ _ _ (by omega) (by omega) H2 (sm.tr sm2 (Nat.le_refl _) (Nat.le_refl _)) (kp.tr kq.1) hq
  refine aw_aload_n hX dX1_passSecond_0 rfl ?_
  refine gt_X1_15 hX dX1_passSecond_1 (by assumption) (by exact rfl) ?_
  refine aw_iconst hX (0) dX1_passSecond_4 (by decide) ?_
  refine aw_ialdN hX (0) (by assumption) rfl (by decide) (by first | decide | assumption) dX1_passSecond_5 ?_
  rw [hP]
  refine aw_istore_n hX dX1_passSecond_6 (Nat.le_of_ble_eq_true rfl) ?_
  refine aw_iload_n hX dX1_passSecond_7 rfl ?_
  refine aw_istore_n hX dX1_passSecond_8 (Nat.le_of_ble_eq_true rfl) ?_
  refine aw_aload_n hX dX1_passSecond_9 rfl ?_
  refine aw_aload_n hX dX1_passSecond_10 rfl ?_
  refine gt_X1_20 hX dX1_passSecond_11 (by assumption) (by exact rfl) ?_
  refine aw_aload_n hX dX1_passSecond_14 rfl ?_
  refine gt_X1_15 hX dX1_passSecond_15 (by assumption) (by exact rfl) ?_
  refine aw_iconst hX (1) dX1_passSecond_18 (by decide) ?_
  refine aw_ialdN hX (1) (by assumption) rfl (by decide) (by first | decide | assumption) dX1_passSecond_19 ?_
  rw [ho]
  refine aw_callV0 hX RX1 rfl (tX1_arrange (v := v) _ _ _ e1 hF (by omega) hlen ho2) rfl mf_X1_arrange mi_X1_arrange ms_X1_arrange kl_X1_24 (by assumption) rfl rfl (by decide) (Nat.le_of_ble_eq_true rfl) dX1_passSecond_20 (by decide) (fun v_20 h_20 p_20 => ?_)
  obtain ⟨rfl, rfl⟩ := p_20
  refine aw_iconst hX (0) dX1_passSecond_23 (by decide) ?_
  refine aw_istore hX dX1_passSecond_24 (Nat.le_of_ble_eq_true rfl) ?_
  exact loop 40 0 P _ v _ rfl (Nat.le_refl _) hA Sm.rf (KP.rf v) rfl
end FLIP
end
