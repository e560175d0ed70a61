def RX0 : String := "HornRocks$Choice"
def TX0 : u_T := fun k => match k with
  | 0 => ("HornRocks$Choice", "best", "I", false)
  | _ => ("HornRocks$Choice", "soonest", "I", false)
def tyX0 : Nat → FieldType := fun k => match k with
  | 0 => .int
  | _ => .int
theorem nmX0 : ∀ a, a < 2 → ∀ b, b < 2 → a ≠ b → (TX0 a).2.1 ≠ (TX0 b).2.1 := by decide +kernel
theorem tyX0_ok : ∀ k, k < 2 → parseFieldDescriptor (TX0 k).2.2.1 = some (tyX0 k) := by decide +kernel
def RX1 : String := "HornRocks$Rock"
def TX1 : u_T := fun k => match k with
  | 0 => ("HornRocks$Rock", "kind", "I", false)
  | 1 => ("HornRocks$Rock", "square", "I", false)
  | 2 => ("HornRocks$Rock", "horn", "I", false)
  | 3 => ("HornRocks$Rock", "sweet", "I", false)
  | _ => ("HornRocks$Rock", "silent", "I", false)
def tyX1 : Nat → FieldType := fun k => match k with
  | 0 => .int
  | 1 => .int
  | 2 => .int
  | 3 => .int
  | _ => .int
theorem nmX1 : ∀ a, a < 5 → ∀ b, b < 5 → a ≠ b → (TX1 a).2.1 ≠ (TX1 b).2.1 := by decide +kernel
theorem tyX1_ok : ∀ k, k < 5 → parseFieldDescriptor (TX1 k).2.2.1 = some (tyX1 k) := by decide +kernel
def RX2 : String := "HornRocks$Sea"
def TX2 : u_T := fun k => match k with
  | 0 => ("HornRocks$Sea", "watch", "I", false)
  | 1 => ("HornRocks$Sea", "square", "I", false)
  | 2 => ("HornRocks$Sea", "ear", "I", false)
  | 3 => ("HornRocks$Sea", "heart", "I", false)
  | 4 => ("HornRocks$Sea", "fate", "I", false)
  | 5 => ("HornRocks$Sea", "size", "I", false)
  | _ => ("HornRocks$Sea", "rocks", "[LHornRocks$Rock;", true)
def tyX2 : Nat → FieldType := fun k => match k with
  | 0 => .int
  | 1 => .int
  | 2 => .int
  | 3 => .int
  | 4 => .int
  | 5 => .int
  | _ => .array (.object "HornRocks$Rock")
theorem nmX2 : ∀ a, a < 7 → ∀ b, b < 7 → a ≠ b → (TX2 a).2.1 ≠ (TX2 b).2.1 := by decide +kernel
theorem tyX2_ok : ∀ k, k < 7 → parseFieldDescriptor (TX2 k).2.2.1 = some (tyX2 k) := by decide +kernel
def RX3 : String := "HornRocks$Sheet"
def TX3 : u_T := fun k => match k with
  | 0 => ("HornRocks$Sheet", "bits", "I", false)
  | 1 => ("HornRocks$Sheet", "length", "I", false)
  | _ => ("HornRocks$Sheet", "numbers", "[J", true)
def tyX3 : Nat → FieldType := fun k => match k with
  | 0 => .int
  | 1 => .int
  | _ => .array .long
theorem nmX3 : ∀ a, a < 3 → ∀ b, b < 3 → a ≠ b → (TX3 a).2.1 ≠ (TX3 b).2.1 := by decide +kernel
theorem tyX3_ok : ∀ k, k < 3 → parseFieldDescriptor (TX3 k).2.2.1 = some (tyX3 k) := by decide +kernel
def RX4 : String := "HornRocks$Tape"
def TX4 : u_T := fun k => match k with
  | 0 => ("HornRocks$Tape", "bytes", "[B", true)
  | 1 => ("HornRocks$Tape", "length", "I", false)
  | 2 => ("HornRocks$Tape", "token", "I", false)
  | 3 => ("HornRocks$Tape", "start", "I", false)
  | 4 => ("HornRocks$Tape", "end", "I", false)
  | _ => ("HornRocks$Tape", "value", "I", false)
def tyX4 : Nat → FieldType := fun k => match k with
  | 0 => .array .byte
  | 1 => .int
  | 2 => .int
  | 3 => .int
  | 4 => .int
  | _ => .int
theorem nmX4 : ∀ a, a < 6 → ∀ b, b < 6 → a ≠ b → (TX4 a).2.1 ≠ (TX4 b).2.1 := by decide +kernel
theorem tyX4_ok : ∀ k, k < 6 → parseFieldDescriptor (TX4 k).2.2.1 = some (tyX4 k) := by decide +kernel
def RX5 : String := "HornRocks"
def TX5 : u_T := fun k => match k with
  | 0 => ("HornRocks", "sea", "LHornRocks$Sea;", true)
  | 1 => ("HornRocks", "trial", "LHornRocks$Sea;", true)
  | 2 => ("HornRocks", "kept", "LHornRocks$Sea;", true)
  | 3 => ("HornRocks", "isKept", "Z", false)
  | 4 => ("HornRocks", "choice", "LHornRocks$Choice;", true)
  | 5 => ("HornRocks", "tape", "LHornRocks$Tape;", true)
  | 6 => ("HornRocks", "sheets", "[LHornRocks$Sheet;", true)
  | _ => ("HornRocks", "tally", "[I", true)
def tyX5 : Nat → FieldType := fun k => match k with
  | 0 => .object "HornRocks$Sea"
  | 1 => .object "HornRocks$Sea"
  | 2 => .object "HornRocks$Sea"
  | 3 => .boolean
  | 4 => .object "HornRocks$Choice"
  | 5 => .object "HornRocks$Tape"
  | 6 => .array (.object "HornRocks$Sheet")
  | _ => .array .int
theorem nmX5 : ∀ a, a < 8 → ∀ b, b < 8 → a ≠ b → (TX5 a).2.1 ≠ (TX5 b).2.1 := by decide +kernel
theorem tyX5_ok : ∀ k, k < 8 → parseFieldDescriptor (TX5 k).2.2.1 = some (tyX5 k) := by decide +kernel
def RX6 : String := "HornRocksModel"
def TX6 : u_T := fun k => match k with
  | 0 => ("HornRocksModel", "s", "[I", true)
  | 1 => ("HornRocksModel", "kept", "[I", true)
  | 2 => ("HornRocksModel", "aside", "[I", true)
  | 3 => ("HornRocksModel", "isKept", "Z", false)
  | 4 => ("HornRocksModel", "found", "[I", true)
  | 5 => ("HornRocksModel", "tape", "[I", true)
  | 6 => ("HornRocksModel", "taped", "I", false)
  | 7 => ("HornRocksModel", "token", "I", false)
  | 8 => ("HornRocksModel", "begun", "I", false)
  | 9 => ("HornRocksModel", "ended", "I", false)
  | 10 => ("HornRocksModel", "value", "J", false)
  | 11 => ("HornRocksModel", "letters", "[C", true)
  | 12 => ("HornRocksModel", "more", "[C", true)
  | 13 => ("HornRocksModel", "others", "[C", true)
  | 14 => ("HornRocksModel", "widths", "[I", true)
  | 15 => ("HornRocksModel", "sizes", "[I", true)
  | 16 => ("HornRocksModel", "cells", "[J", true)
  | _ => ("HornRocksModel", "carried", "[J", true)
def tyX6 : Nat → FieldType := fun k => match k with
  | 0 => .array .int
  | 1 => .array .int
  | 2 => .array .int
  | 3 => .boolean
  | 4 => .array .int
  | 5 => .array .int
  | 6 => .int
  | 7 => .int
  | 8 => .int
  | 9 => .int
  | 10 => .long
  | 11 => .array .char
  | 12 => .array .char
  | 13 => .array .char
  | 14 => .array .int
  | 15 => .array .int
  | 16 => .array .long
  | _ => .array .long
theorem nmX6 : ∀ a, a < 18 → ∀ b, b < 18 → a ≠ b → (TX6 a).2.1 ≠ (TX6 b).2.1 := by decide +kernel
theorem tyX6_ok : ∀ k, k < 18 → parseFieldDescriptor (TX6 k).2.2.1 = some (tyX6 k) := by decide +kernel
abbrev hr_cl : List vw_C := [(RX0, TX0, 2), (RX1, TX1, 5), (RX2, TX2, 7), (RX3, TX3, 3), (RX4, TX4, 6), (RX5, TX5, 8), (RX6, TX6, 18)]
def hr_TT : List Cond := lw_tbl.filter goodWord
def hr_tb0 : List (ByteArray × MethodName × Nat × Option FieldType × Nat × Nat × Nat × Nat) := [(prog_1_method_1_code, (⟨"HornRocks", "<init>", "()V"⟩ : MethodName), 2, (Option.none : Option Jvm.ClassFile.FieldType), 5, 2, 41, 0),
  (prog_4_method_1_code, (⟨"HornRocks$Sea", "<init>", "()V"⟩ : MethodName), 2, (Option.none : Option Jvm.ClassFile.FieldType), 2, 1, 20, 0),
  (prog_3_method_1_code, (⟨"HornRocks$Rock", "<init>", "()V"⟩ : MethodName), 1, (Option.none : Option Jvm.ClassFile.FieldType), 1, 0, 0, 0),
  (prog_2_method_1_code, (⟨"HornRocks$Choice", "<init>", "()V"⟩ : MethodName), 1, (Option.none : Option Jvm.ClassFile.FieldType), 0, 0, 0, 0),
  (prog_6_method_1_code, (⟨"HornRocks$Tape", "<init>", "()V"⟩ : MethodName), 1, (Option.none : Option Jvm.ClassFile.FieldType), 4, 0, 0, 0),
  (prog_5_method_1_code, (⟨"HornRocks$Sheet", "<init>", "()V"⟩ : MethodName), 1, (Option.none : Option Jvm.ClassFile.FieldType), 3, 0, 0, 0),
  (prog_1_method_2_code, (⟨"HornRocks", "ship", "(II)I"⟩ : MethodName), 3, (Option.some Jvm.ClassFile.FieldType.int), 5, 2, 44, 2),
  (prog_1_method_45_code, (⟨"HornRocks", "isWithin", "(III)Z"⟩ : MethodName), 3, (Option.some Jvm.ClassFile.FieldType.boolean), 5, 0, 0, 3),
  (prog_1_method_37_code, (⟨"HornRocks", "found", "(I)I"⟩ : MethodName), 2, (Option.some Jvm.ClassFile.FieldType.int), 5, 0, 0, 1),
  (prog_4_method_6_code, (⟨"HornRocks$Sea", "changeShip", "(II)I"⟩ : MethodName), 4, (Option.some Jvm.ClassFile.FieldType.int), 2, 1, 21, 2),
  (prog_4_method_5_code, (⟨"HornRocks$Sea", "placeShip", "(I)V"⟩ : MethodName), 2, (Option.none : Option Jvm.ClassFile.FieldType), 2, 0, 0, 1),
  (prog_1_method_3_code, (⟨"HornRocks", "now", "(I)I"⟩ : MethodName), 2, (Option.some Jvm.ClassFile.FieldType.int), 5, 4, 92, 1),
  (prog_4_method_8_code, (⟨"HornRocks$Sea", "heardSet", "()I"⟩ : MethodName), 3, (Option.some Jvm.ClassFile.FieldType.int), 2, 3, 67, 0),
  (prog_3_method_6_code, (⟨"HornRocks$Rock", "soundAt", "(II)I"⟩ : MethodName), 7, (Option.some Jvm.ClassFile.FieldType.int), 1, 2, 41, 2),
  (prog_1_method_46_code, (⟨"HornRocks", "far", "(II)I"⟩ : MethodName), 2, (Option.some Jvm.ClassFile.FieldType.int), 5, 1, 20, 2),
  (prog_10_method_59_code, (⟨"java/lang/Math", "abs", "(I)I"⟩ : MethodName), 1, (Option.some Jvm.ClassFile.FieldType.int), 9, 0, 0, 1),
  (prog_10_method_65_code, (⟨"java/lang/Math", "max", "(II)I"⟩ : MethodName), 2, (Option.some Jvm.ClassFile.FieldType.int), 9, 0, 0, 2),
  (prog_4_method_9_code, (⟨"HornRocks$Sea", "isHeard", "(I)Z"⟩ : MethodName), 2, (Option.some Jvm.ClassFile.FieldType.boolean), 2, 0, 0, 1),
  (prog_4_method_10_code, (⟨"HornRocks$Sea", "guide", "()I"⟩ : MethodName), 6, (Option.some Jvm.ClassFile.FieldType.int), 2, 3, 67, 0),
  (prog_3_method_7_code, (⟨"HornRocks$Rock", "lureAt", "(I)I"⟩ : MethodName), 3, (Option.some Jvm.ClassFile.FieldType.int), 1, 2, 41, 1)]
def hr_tb1 : List (ByteArray × MethodName × Nat × Option FieldType × Nat × Nat × Nat × Nat) := [(prog_1_method_4_code, (⟨"HornRocks", "rock", "(II)I"⟩ : MethodName), 3, (Option.some Jvm.ClassFile.FieldType.int), 5, 2, 45, 2),
  (prog_1_method_42_code, (⟨"HornRocks", "isKind", "(I)Z"⟩ : MethodName), 1, (Option.some Jvm.ClassFile.FieldType.boolean), 5, 0, 0, 1),
  (prog_1_method_43_code, (⟨"HornRocks", "isSquare", "(I)Z"⟩ : MethodName), 1, (Option.some Jvm.ClassFile.FieldType.boolean), 5, 0, 0, 1),
  (prog_4_method_4_code, (⟨"HornRocks$Sea", "addRock", "(II)LHornRocks$Rock;"⟩ : MethodName), 4, (Option.some (Jvm.ClassFile.FieldType.object "HornRocks$Rock")), 2, 1, 22, 2),
  (prog_4_method_3_code, (⟨"HornRocks$Sea", "isFull", "()Z"⟩ : MethodName), 1, (Option.some Jvm.ClassFile.FieldType.boolean), 2, 0, 0, 0),
  (prog_3_method_2_code, (⟨"HornRocks$Rock", "reset", "(II)V"⟩ : MethodName), 3, (Option.none : Option Jvm.ClassFile.FieldType), 1, 0, 0, 2),
  (prog_1_method_5_code, (⟨"HornRocks", "of", "(II)I"⟩ : MethodName), 4, (Option.some Jvm.ClassFile.FieldType.int), 5, 3, 67, 2),
  (prog_1_method_41_code, (⟨"HornRocks", "isRock", "(I)Z"⟩ : MethodName), 2, (Option.some Jvm.ClassFile.FieldType.boolean), 5, 0, 0, 1),
  (prog_3_method_8_code, (⟨"HornRocks$Rock", "wrecksIn", "(I)Z"⟩ : MethodName), 2, (Option.some Jvm.ClassFile.FieldType.boolean), 1, 0, 0, 1),
  (prog_1_method_6_code, (⟨"HornRocks", "set", "(III)I"⟩ : MethodName), 4, (Option.some Jvm.ClassFile.FieldType.int), 5, 1, 23, 3),
  (prog_3_method_4_code, (⟨"HornRocks$Rock", "change", "(II)I"⟩ : MethodName), 4, (Option.some Jvm.ClassFile.FieldType.int), 1, 0, 0, 2),
  (prog_1_method_7_code, (⟨"HornRocks", "turn", "(II)I"⟩ : MethodName), 4, (Option.some Jvm.ClassFile.FieldType.int), 5, 1, 21, 2),
  (prog_1_method_8_code, (⟨"HornRocks", "as", "(II)I"⟩ : MethodName), 4, (Option.some Jvm.ClassFile.FieldType.int), 5, 1, 23, 2),
  (prog_3_method_5_code, (⟨"HornRocks$Rock", "isOfKind", "(I)Z"⟩ : MethodName), 4, (Option.some Jvm.ClassFile.FieldType.boolean), 1, 0, 0, 1),
  (prog_1_method_9_code, (⟨"HornRocks", "sounds", "(II)I"⟩ : MethodName), 3, (Option.some Jvm.ClassFile.FieldType.int), 5, 3, 67, 2),
  (prog_1_method_10_code, (⟨"HornRocks", "loudest", "(I)I"⟩ : MethodName), 2, (Option.some Jvm.ClassFile.FieldType.int), 5, 4, 92, 1),
  (prog_4_method_7_code, (⟨"HornRocks$Sea", "loudestAt", "(I)I"⟩ : MethodName), 6, (Option.some Jvm.ClassFile.FieldType.int), 2, 3, 67, 1),
  (prog_1_method_38_code, (⟨"HornRocks", "orNone", "(I)I"⟩ : MethodName), 2, (Option.some Jvm.ClassFile.FieldType.int), 5, 1, 21, 1),
  (prog_1_method_11_code, (⟨"HornRocks", "watches", "(I)I"⟩ : MethodName), 2, (Option.some Jvm.ClassFile.FieldType.int), 5, 6, 135, 1),
  (prog_4_method_11_code, (⟨"HornRocks$Sea", "goWatches", "(I)V"⟩ : MethodName), 3, (Option.none : Option Jvm.ClassFile.FieldType), 2, 5, 113, 1)]
def hr_tb2 : List (ByteArray × MethodName × Nat × Option FieldType × Nat × Nat × Nat × Nat) := [(prog_4_method_12_code, (⟨"HornRocks$Sea", "goOneWatch", "()V"⟩ : MethodName), 2, (Option.none : Option Jvm.ClassFile.FieldType), 2, 4, 92, 0),
  (prog_4_method_13_code, (⟨"HornRocks$Sea", "squareAhead", "()I"⟩ : MethodName), 1, (Option.some Jvm.ClassFile.FieldType.int), 2, 0, 0, 0),
  (prog_4_method_14_code, (⟨"HornRocks$Sea", "squareBy", "(I)I"⟩ : MethodName), 8, (Option.some Jvm.ClassFile.FieldType.int), 2, 2, 41, 1),
  (prog_4_method_15_code, (⟨"HornRocks$Sea", "neighbour", "(I)I"⟩ : MethodName), 4, (Option.some Jvm.ClassFile.FieldType.int), 2, 0, 0, 1),
  (prog_4_method_16_code, (⟨"HornRocks$Sea", "isWreckedHere", "()Z"⟩ : MethodName), 2, (Option.some Jvm.ClassFile.FieldType.boolean), 2, 1, 21, 0),
  (prog_4_method_17_code, (⟨"HornRocks$Sea", "driftBars", "()V"⟩ : MethodName), 3, (Option.none : Option Jvm.ClassFile.FieldType), 2, 1, 23, 0),
  (prog_1_method_12_code, (⟨"HornRocks", "on", "(II)I"⟩ : MethodName), 3, (Option.some Jvm.ClassFile.FieldType.int), 5, 6, 135, 2),
  (prog_1_method_40_code, (⟨"HornRocks", "tryAsItIs", "()V"⟩ : MethodName), 1, (Option.none : Option Jvm.ClassFile.FieldType), 5, 2, 43, 0),
  (prog_4_method_2_code, (⟨"HornRocks$Sea", "become", "(LHornRocks$Sea;)V"⟩ : MethodName), 3, (Option.none : Option Jvm.ClassFile.FieldType), 2, 1, 21, 1),
  (prog_3_method_3_code, (⟨"HornRocks$Rock", "become", "(LHornRocks$Rock;)V"⟩ : MethodName), 2, (Option.none : Option Jvm.ClassFile.FieldType), 1, 0, 0, 1),
  (prog_1_method_13_code, (⟨"HornRocks", "moved", "(II)I"⟩ : MethodName), 3, (Option.some Jvm.ClassFile.FieldType.int), 5, 6, 135, 2),
  (prog_1_method_14_code, (⟨"HornRocks", "strikes", "()I"⟩ : MethodName), 1, (Option.some Jvm.ClassFile.FieldType.int), 5, 6, 136, 0),
  (prog_4_method_18_code, (⟨"HornRocks$Sea", "watchesToFate", "(II)I"⟩ : MethodName), 4, (Option.some Jvm.ClassFile.FieldType.int), 2, 5, 113, 2),
  (prog_1_method_15_code, (⟨"HornRocks", "home", "()I"⟩ : MethodName), 1, (Option.some Jvm.ClassFile.FieldType.int), 5, 6, 136, 0),
  (prog_1_method_16_code, (⟨"HornRocks", "comes", "(I)I"⟩ : MethodName), 2, (Option.some Jvm.ClassFile.FieldType.int), 5, 6, 136, 1),
  (prog_4_method_19_code, (⟨"HornRocks$Sea", "watchesToSquare", "(II)I"⟩ : MethodName), 4, (Option.some Jvm.ClassFile.FieldType.int), 2, 5, 113, 2),
  (prog_1_method_17_code, (⟨"HornRocks", "ear", "()I"⟩ : MethodName), 2, (Option.some Jvm.ClassFile.FieldType.int), 5, 6, 136, 0),
  (prog_2_method_2_code, (⟨"HornRocks$Choice", "open", "(I)V"⟩ : MethodName), 2, (Option.none : Option Jvm.ClassFile.FieldType), 0, 0, 0, 1),
  (prog_2_method_3_code, (⟨"HornRocks$Choice", "offer", "(II)V"⟩ : MethodName), 3, (Option.none : Option Jvm.ClassFile.FieldType), 0, 0, 0, 2),
  (prog_1_method_18_code, (⟨"HornRocks", "begin", "(I)I"⟩ : MethodName), 3, (Option.some Jvm.ClassFile.FieldType.int), 5, 6, 136, 1)]
def hr_tb3 : List (ByteArray × MethodName × Nat × Option FieldType × Nat × Nat × Nat × Nat) := [(prog_1_method_19_code, (⟨"HornRocks", "silence", "()I"⟩ : MethodName), 2, (Option.some Jvm.ClassFile.FieldType.int), 5, 6, 136, 0),
  (prog_1_method_20_code, (⟨"HornRocks", "kind", "(I)I"⟩ : MethodName), 3, (Option.some Jvm.ClassFile.FieldType.int), 5, 6, 136, 1),
  (prog_1_method_21_code, (⟨"HornRocks", "horn", "(II)I"⟩ : MethodName), 4, (Option.some Jvm.ClassFile.FieldType.int), 5, 6, 136, 2),
  (prog_1_method_22_code, (⟨"HornRocks", "fewest", "(I)I"⟩ : MethodName), 5, (Option.some Jvm.ClassFile.FieldType.int), 5, 6, 136, 1),
  (prog_9_method_49_code, (⟨"java/lang/Integer", "bitCount", "(I)I"⟩ : MethodName), 1, (Option.some Jvm.ClassFile.FieldType.int), 8, 0, 0, 1),
  (prog_4_method_20_code, (⟨"HornRocks$Sea", "hush", "(I)V"⟩ : MethodName), 3, (Option.none : Option Jvm.ClassFile.FieldType), 2, 0, 0, 1),
  (prog_1_method_23_code, (⟨"HornRocks", "feed", "(II)I"⟩ : MethodName), 3, (Option.some Jvm.ClassFile.FieldType.int), 5, 1, 23, 2),
  (prog_6_method_2_code, (⟨"HornRocks$Tape", "append", "(II)V"⟩ : MethodName), 4, (Option.none : Option Jvm.ClassFile.FieldType), 4, 0, 0, 2),
  (prog_1_method_24_code, (⟨"HornRocks", "wipe", "()I"⟩ : MethodName), 2, (Option.some Jvm.ClassFile.FieldType.int), 5, 0, 0, 0),
  (prog_1_method_25_code, (⟨"HornRocks", "chart", "()I"⟩ : MethodName), 2, (Option.some Jvm.ClassFile.FieldType.int), 5, 10, 217, 0),
  (prog_6_method_3_code, (⟨"HornRocks$Tape", "readChart", "(LHornRocks$Sea;)I"⟩ : MethodName), 3, (Option.some Jvm.ClassFile.FieldType.int), 4, 9, 195, 1),
  (prog_6_method_12_code, (⟨"HornRocks$Tape", "advance", "()V"⟩ : MethodName), 1, (Option.none : Option Jvm.ClassFile.FieldType), 4, 2, 40, 0),
  (prog_6_method_14_code, (⟨"HornRocks$Tape", "isLetter", "(B)Z"⟩ : MethodName), 1, (Option.some Jvm.ClassFile.FieldType.boolean), 4, 0, 0, 1),
  (prog_6_method_15_code, (⟨"HornRocks$Tape", "isDigit", "(B)Z"⟩ : MethodName), 1, (Option.some Jvm.ClassFile.FieldType.boolean), 4, 0, 0, 1),
  (prog_6_method_13_code, (⟨"HornRocks$Tape", "readDigits", "()V"⟩ : MethodName), 1, (Option.none : Option Jvm.ClassFile.FieldType), 4, 1, 20, 0),
  (prog_6_method_4_code, (⟨"HornRocks$Tape", "readItem", "(LHornRocks$Sea;)Z"⟩ : MethodName), 3, (Option.some Jvm.ClassFile.FieldType.boolean), 4, 8, 173, 1),
  (prog_6_method_7_code, (⟨"HornRocks$Tape", "takeWord", "(Ljava/lang/String;)Z"⟩ : MethodName), 2, (Option.some Jvm.ClassFile.FieldType.boolean), 4, 6, 128, 1),
  (prog_6_method_11_code, (⟨"HornRocks$Tape", "isWord", "(Ljava/lang/String;)Z"⟩ : MethodName), 3, (Option.some Jvm.ClassFile.FieldType.boolean), 4, 5, 106, 1),
  (prog_11_method_54_code, (⟨"java/lang/String", "length", "()I"⟩ : MethodName), 1, (Option.some Jvm.ClassFile.FieldType.int), 10, 1, 20, 0),
  (prog_11_method_152_code, (⟨"java/lang/String", "coder", "()B"⟩ : MethodName), 1, (Option.some Jvm.ClassFile.FieldType.byte), 10, 0, 0, 0)]
def hr_tb4 : List (ByteArray × MethodName × Nat × Option FieldType × Nat × Nat × Nat × Nat) := [(prog_11_method_56_code, (⟨"java/lang/String", "charAt", "(I)C"⟩ : MethodName), 2, (Option.some Jvm.ClassFile.FieldType.char), 10, 4, 85, 1),
  (prog_11_method_154_code, (⟨"java/lang/String", "isLatin1", "()Z"⟩ : MethodName), 1, (Option.some Jvm.ClassFile.FieldType.boolean), 10, 0, 0, 0),
  (prog_12_method_2_code, (⟨"java/lang/StringLatin1", "charAt", "([BI)C"⟩ : MethodName), 2, (Option.some Jvm.ClassFile.FieldType.char), 11, 2, 43, 2),
  (prog_11_method_155_code, (⟨"java/lang/String", "checkIndex", "(II)V"⟩ : MethodName), 2, (Option.none : Option Jvm.ClassFile.FieldType), 10, 1, 22, 2),
  (prog_16_method_11_code, (⟨"jdk/internal/util/Preconditions", "checkIndex", "(IILjava/util/function/BiFunction;)I"⟩ : MethodName), 3, (Option.some Jvm.ClassFile.FieldType.int), 12, 0, 0, 3),
  (prog_13_method_83_code, (⟨"java/lang/StringUTF16", "charAt", "([BI)C"⟩ : MethodName), 2, (Option.some Jvm.ClassFile.FieldType.char), 14, 3, 64, 2),
  (prog_13_method_91_code, (⟨"java/lang/StringUTF16", "checkIndex", "(I[B)V"⟩ : MethodName), 2, (Option.none : Option Jvm.ClassFile.FieldType), 14, 2, 43, 2),
  (prog_13_method_6_code, (⟨"java/lang/StringUTF16", "length", "([B)I"⟩ : MethodName), 1, (Option.some Jvm.ClassFile.FieldType.int), 14, 0, 0, 1),
  (prog_13_method_5_code, (⟨"java/lang/StringUTF16", "getChar", "([BI)C"⟩ : MethodName), 2, (Option.some Jvm.ClassFile.FieldType.char), 14, 1, 20, 2),
  (prog_6_method_5_code, (⟨"HornRocks$Tape", "readShip", "(LHornRocks$Sea;)Z"⟩ : MethodName), 4, (Option.some Jvm.ClassFile.FieldType.boolean), 4, 7, 149, 1),
  (prog_6_method_8_code, (⟨"HornRocks$Tape", "takeNumber", "(I)I"⟩ : MethodName), 3, (Option.some Jvm.ClassFile.FieldType.int), 4, 3, 60, 1),
  (prog_6_method_9_code, (⟨"HornRocks$Tape", "kindNamed", "()I"⟩ : MethodName), 2, (Option.some Jvm.ClassFile.FieldType.int), 4, 6, 128, 0),
  (prog_6_method_10_code, (⟨"HornRocks$Tape", "nameOf", "(I)Ljava/lang/String;"⟩ : MethodName), 1, (Option.some (Jvm.ClassFile.FieldType.object "java/lang/String")), 4, 0, 0, 1),
  (prog_6_method_6_code, (⟨"HornRocks$Tape", "readRock", "(LHornRocks$Sea;I)Z"⟩ : MethodName), 5, (Option.some Jvm.ClassFile.FieldType.boolean), 4, 7, 149, 2),
  (prog_1_method_26_code, (⟨"HornRocks", "sheet", "(III)I"⟩ : MethodName), 4, (Option.some Jvm.ClassFile.FieldType.int), 5, 2, 46, 3),
  (prog_1_method_44_code, (⟨"HornRocks", "isSheet", "(I)Z"⟩ : MethodName), 1, (Option.some Jvm.ClassFile.FieldType.boolean), 5, 0, 0, 1),
  (prog_5_method_3_code, (⟨"HornRocks$Sheet", "renew", "(II)V"⟩ : MethodName), 3, (Option.none : Option Jvm.ClassFile.FieldType), 3, 1, 24, 2),
  (prog_15_method_101_code, (⟨"java/util/Arrays", "fill", "([JJ)V"⟩ : MethodName), 5, (Option.none : Option Jvm.ClassFile.FieldType), 13, 0, 0, 2),
  (prog_1_method_27_code, (⟨"HornRocks", "write", "(IIJ)J"⟩ : MethodName), 9, (Option.some Jvm.ClassFile.FieldType.long), 5, 2, 42, 3),
  (prog_1_method_39_code, (⟨"HornRocks", "faultOfSheet", "(I)I"⟩ : MethodName), 2, (Option.some Jvm.ClassFile.FieldType.int), 5, 1, 21, 1)]
def hr_tb5 : List (ByteArray × MethodName × Nat × Option FieldType × Nat × Nat × Nat × Nat) := [(prog_5_method_2_code, (⟨"HornRocks$Sheet", "isMissing", "()Z"⟩ : MethodName), 1, (Option.some Jvm.ClassFile.FieldType.boolean), 3, 0, 0, 0),
  (prog_5_method_4_code, (⟨"HornRocks$Sheet", "put", "(IJ)V"⟩ : MethodName), 4, (Option.none : Option Jvm.ClassFile.FieldType), 3, 0, 0, 2),
  (prog_1_method_28_code, (⟨"HornRocks", "copy", "(IIIII)I"⟩ : MethodName), 8, (Option.some Jvm.ClassFile.FieldType.int), 5, 1, 22, 5),
  (prog_5_method_5_code, (⟨"HornRocks$Sheet", "hasRange", "(II)Z"⟩ : MethodName), 3, (Option.some Jvm.ClassFile.FieldType.boolean), 3, 0, 0, 2),
  (prog_1_method_29_code, (⟨"HornRocks", "lays", "(I)I"⟩ : MethodName), 8, (Option.some Jvm.ClassFile.FieldType.int), 5, 2, 42, 1),
  (prog_1_method_30_code, (⟨"HornRocks", "book", "(I)I"⟩ : MethodName), 5, (Option.some Jvm.ClassFile.FieldType.int), 5, 5, 113, 1),
  (prog_1_method_31_code, (⟨"HornRocks", "read", "(I)I"⟩ : MethodName), 7, (Option.some Jvm.ClassFile.FieldType.int), 5, 6, 135, 1),
  (prog_5_method_6_code, (⟨"HornRocks$Sheet", "isTrackOf", "(LHornRocks$Sea;)Z"⟩ : MethodName), 3, (Option.some Jvm.ClassFile.FieldType.boolean), 3, 5, 113, 1),
  (prog_1_method_32_code, (⟨"HornRocks", "image", "()I"⟩ : MethodName), 1, (Option.some Jvm.ClassFile.FieldType.int), 5, 2, 43, 0),
  (prog_1_method_33_code, (⟨"HornRocks", "undo", "()I"⟩ : MethodName), 1, (Option.some Jvm.ClassFile.FieldType.int), 5, 2, 43, 0),
  (prog_1_method_34_code, (⟨"HornRocks", "tear", "()I"⟩ : MethodName), 2, (Option.some Jvm.ClassFile.FieldType.int), 5, 0, 0, 0),
  (prog_1_method_35_code, (⟨"HornRocks", "count", "(I)I"⟩ : MethodName), 2, (Option.some Jvm.ClassFile.FieldType.int), 5, 1, 22, 1),
  (prog_4_method_21_code, (⟨"HornRocks$Sea", "silentRocks", "()I"⟩ : MethodName), 3, (Option.some Jvm.ClassFile.FieldType.int), 2, 0, 0, 0),
  (prog_4_method_22_code, (⟨"HornRocks$Sea", "allHorns", "()I"⟩ : MethodName), 3, (Option.some Jvm.ClassFile.FieldType.int), 2, 0, 0, 0),
  (prog_1_method_36_code, (⟨"HornRocks", "status", "(I)I"⟩ : MethodName), 4, (Option.some Jvm.ClassFile.FieldType.int), 5, 1, 22, 1),
  (prog_8_method_1_code, (⟨"HornRocksModel", "<init>", "()V"⟩ : MethodName), 1, (Option.none : Option Jvm.ClassFile.FieldType), 6, 0, 0, 0),
  (prog_8_method_25_code, (⟨"HornRocksModel", "ship", "(II)I"⟩ : MethodName), 4, (Option.some Jvm.ClassFile.FieldType.int), 6, 1, 22, 2),
  (prog_8_method_3_code, (⟨"HornRocksModel", "in1", "(III)Z"⟩ : MethodName), 3, (Option.some Jvm.ClassFile.FieldType.boolean), 6, 0, 0, 3),
  (prog_8_method_2_code, (⟨"HornRocksModel", "no", "(I)I"⟩ : MethodName), 2, (Option.some Jvm.ClassFile.FieldType.int), 6, 0, 0, 1),
  (prog_8_method_24_code, (⟨"HornRocksModel", "placesShip", "(I)V"⟩ : MethodName), 2, (Option.none : Option Jvm.ClassFile.FieldType), 6, 0, 0, 1)]
def hr_tb6 : List (ByteArray × MethodName × Nat × Option FieldType × Nat × Nat × Nat × Nat) := [(prog_8_method_27_code, (⟨"HornRocksModel", "now", "(I)I"⟩ : MethodName), 2, (Option.some Jvm.ClassFile.FieldType.int), 6, 4, 95, 1),
  (prog_8_method_26_code, (⟨"HornRocksModel", "heard", "()I"⟩ : MethodName), 3, (Option.some Jvm.ClassFile.FieldType.int), 6, 3, 70, 0),
  (prog_8_method_16_code, (⟨"HornRocksModel", "hearsOf", "(I)Z"⟩ : MethodName), 2, (Option.some Jvm.ClassFile.FieldType.boolean), 6, 2, 49, 1),
  (prog_8_method_13_code, (⟨"HornRocksModel", "soundsAt", "(II)I"⟩ : MethodName), 7, (Option.some Jvm.ClassFile.FieldType.int), 6, 1, 23, 2),
  (prog_8_method_8_code, (⟨"HornRocksModel", "get", "(II)I"⟩ : MethodName), 3, (Option.some Jvm.ClassFile.FieldType.int), 6, 0, 0, 2),
  (prog_8_method_12_code, (⟨"HornRocksModel", "farOf", "(II)I"⟩ : MethodName), 4, (Option.some Jvm.ClassFile.FieldType.int), 6, 0, 0, 2),
  (prog_8_method_17_code, (⟨"HornRocksModel", "guide", "()I"⟩ : MethodName), 6, (Option.some Jvm.ClassFile.FieldType.int), 6, 3, 70, 0),
  (prog_8_method_14_code, (⟨"HornRocksModel", "luresAt", "(II)I"⟩ : MethodName), 6, (Option.some Jvm.ClassFile.FieldType.int), 6, 1, 23, 2),
  (prog_8_method_29_code, (⟨"HornRocksModel", "rock", "(II)I"⟩ : MethodName), 3, (Option.some Jvm.ClassFile.FieldType.int), 6, 2, 46, 2),
  (prog_8_method_7_code, (⟨"HornRocksModel", "isSquare", "(I)Z"⟩ : MethodName), 1, (Option.some Jvm.ClassFile.FieldType.boolean), 6, 1, 22, 1),
  (prog_8_method_28_code, (⟨"HornRocksModel", "addsRock", "(II)V"⟩ : MethodName), 4, (Option.none : Option Jvm.ClassFile.FieldType), 6, 1, 23, 2),
  (prog_8_method_9_code, (⟨"HornRocksModel", "puts", "(III)V"⟩ : MethodName), 4, (Option.none : Option Jvm.ClassFile.FieldType), 6, 0, 0, 3),
  (prog_8_method_30_code, (⟨"HornRocksModel", "of", "(II)I"⟩ : MethodName), 3, (Option.some Jvm.ClassFile.FieldType.int), 6, 2, 49, 2),
  (prog_8_method_6_code, (⟨"HornRocksModel", "isRock", "(I)Z"⟩ : MethodName), 2, (Option.some Jvm.ClassFile.FieldType.boolean), 6, 1, 22, 1),
  (prog_8_method_15_code, (⟨"HornRocksModel", "wrecksNow", "(I)Z"⟩ : MethodName), 3, (Option.some Jvm.ClassFile.FieldType.boolean), 6, 1, 22, 1),
  (prog_8_method_31_code, (⟨"HornRocksModel", "set", "(III)I"⟩ : MethodName), 6, (Option.some Jvm.ClassFile.FieldType.int), 6, 2, 43, 3),
  (prog_8_method_32_code, (⟨"HornRocksModel", "turn", "(II)I"⟩ : MethodName), 4, (Option.some Jvm.ClassFile.FieldType.int), 6, 2, 43, 2),
  (prog_8_method_33_code, (⟨"HornRocksModel", "as", "(II)I"⟩ : MethodName), 4, (Option.some Jvm.ClassFile.FieldType.int), 6, 2, 43, 2),
  (prog_8_method_34_code, (⟨"HornRocksModel", "sounds", "(II)I"⟩ : MethodName), 3, (Option.some Jvm.ClassFile.FieldType.int), 6, 2, 49, 2),
  (prog_8_method_35_code, (⟨"HornRocksModel", "loudest", "(I)I"⟩ : MethodName), 4, (Option.some Jvm.ClassFile.FieldType.int), 6, 2, 49, 1)]
def hr_tb7 : List (ByteArray × MethodName × Nat × Option FieldType × Nat × Nat × Nat × Nat) := [(prog_8_method_36_code, (⟨"HornRocksModel", "watches", "(I)I"⟩ : MethodName), 2, (Option.some Jvm.ClassFile.FieldType.int), 6, 7, 161, 1),
  (prog_8_method_23_code, (⟨"HornRocksModel", "goes", "(I)V"⟩ : MethodName), 3, (Option.none : Option Jvm.ClassFile.FieldType), 6, 6, 139, 1),
  (prog_8_method_22_code, (⟨"HornRocksModel", "watch", "()V"⟩ : MethodName), 2, (Option.none : Option Jvm.ClassFile.FieldType), 6, 5, 118, 0),
  (prog_8_method_20_code, (⟨"HornRocksModel", "sails", "()V"⟩ : MethodName), 4, (Option.none : Option Jvm.ClassFile.FieldType), 6, 4, 95, 0),
  (prog_8_method_19_code, (⟨"HornRocksModel", "goesBy", "(I)I"⟩ : MethodName), 8, (Option.some Jvm.ClassFile.FieldType.int), 6, 2, 45, 1),
  (prog_8_method_18_code, (⟨"HornRocksModel", "besideOf", "(I)I"⟩ : MethodName), 4, (Option.some Jvm.ClassFile.FieldType.int), 6, 1, 22, 1),
  (prog_8_method_21_code, (⟨"HornRocksModel", "drifts", "(I)V"⟩ : MethodName), 3, (Option.none : Option Jvm.ClassFile.FieldType), 6, 1, 23, 1),
  (prog_8_method_38_code, (⟨"HornRocksModel", "on", "(II)I"⟩ : MethodName), 3, (Option.some Jvm.ClassFile.FieldType.int), 6, 8, 184, 2),
  (prog_8_method_37_code, (⟨"HornRocksModel", "thenAt", "(II)I"⟩ : MethodName), 4, (Option.some Jvm.ClassFile.FieldType.int), 6, 7, 161, 2),
  (prog_8_method_10_code, (⟨"HornRocksModel", "setsAside", "()V"⟩ : MethodName), 2, (Option.none : Option Jvm.ClassFile.FieldType), 6, 0, 0, 0),
  (prog_8_method_11_code, (⟨"HornRocksModel", "laysBack", "()V"⟩ : MethodName), 2, (Option.none : Option Jvm.ClassFile.FieldType), 6, 0, 0, 0),
  (prog_8_method_39_code, (⟨"HornRocksModel", "moved", "(II)I"⟩ : MethodName), 3, (Option.some Jvm.ClassFile.FieldType.int), 6, 8, 184, 2),
  (prog_8_method_42_code, (⟨"HornRocksModel", "strikes", "()I"⟩ : MethodName), 1, (Option.some Jvm.ClassFile.FieldType.int), 6, 8, 186, 0),
  (prog_8_method_41_code, (⟨"HornRocksModel", "whenBy", "(II)I"⟩ : MethodName), 4, (Option.some Jvm.ClassFile.FieldType.int), 6, 7, 163, 2),
  (prog_8_method_40_code, (⟨"HornRocksModel", "firstBy", "(III)I"⟩ : MethodName), 5, (Option.some Jvm.ClassFile.FieldType.int), 6, 6, 139, 3),
  (prog_8_method_43_code, (⟨"HornRocksModel", "home", "()I"⟩ : MethodName), 1, (Option.some Jvm.ClassFile.FieldType.int), 6, 8, 186, 0),
  (prog_8_method_44_code, (⟨"HornRocksModel", "comes", "(I)I"⟩ : MethodName), 2, (Option.some Jvm.ClassFile.FieldType.int), 6, 8, 186, 1),
  (prog_8_method_45_code, (⟨"HornRocksModel", "ear", "()I"⟩ : MethodName), 5, (Option.some Jvm.ClassFile.FieldType.int), 6, 7, 163, 0),
  (prog_8_method_4_code, (⟨"HornRocksModel", "less", "(II)I"⟩ : MethodName), 2, (Option.some Jvm.ClassFile.FieldType.int), 6, 0, 0, 2),
  (prog_8_method_46_code, (⟨"HornRocksModel", "begin", "(I)I"⟩ : MethodName), 6, (Option.some Jvm.ClassFile.FieldType.int), 6, 7, 163, 1)]
def hr_tb8 : List (ByteArray × MethodName × Nat × Option FieldType × Nat × Nat × Nat × Nat) := [(prog_8_method_47_code, (⟨"HornRocksModel", "silence", "()I"⟩ : MethodName), 6, (Option.some Jvm.ClassFile.FieldType.int), 6, 7, 163, 0),
  (prog_8_method_48_code, (⟨"HornRocksModel", "kind", "(I)I"⟩ : MethodName), 6, (Option.some Jvm.ClassFile.FieldType.int), 6, 7, 163, 1),
  (prog_8_method_49_code, (⟨"HornRocksModel", "horn", "(II)I"⟩ : MethodName), 4, (Option.some Jvm.ClassFile.FieldType.int), 6, 7, 163, 2),
  (prog_8_method_51_code, (⟨"HornRocksModel", "fewest", "(I)I"⟩ : MethodName), 5, (Option.some Jvm.ClassFile.FieldType.int), 6, 8, 184, 1),
  (prog_8_method_5_code, (⟨"HornRocksModel", "bits", "(I)I"⟩ : MethodName), 3, (Option.some Jvm.ClassFile.FieldType.int), 6, 0, 0, 1),
  (prog_8_method_50_code, (⟨"HornRocksModel", "isSafeBy", "(II)Z"⟩ : MethodName), 4, (Option.some Jvm.ClassFile.FieldType.boolean), 6, 7, 161, 2),
  (prog_8_method_52_code, (⟨"HornRocksModel", "feed", "(II)I"⟩ : MethodName), 4, (Option.some Jvm.ClassFile.FieldType.int), 6, 1, 22, 2),
  (prog_8_method_53_code, (⟨"HornRocksModel", "wipe", "()I"⟩ : MethodName), 2, (Option.some Jvm.ClassFile.FieldType.int), 6, 0, 0, 0),
  (prog_8_method_62_code, (⟨"HornRocksModel", "chart", "()I"⟩ : MethodName), 3, (Option.some Jvm.ClassFile.FieldType.int), 6, 6, 131, 0),
  (prog_8_method_56_code, (⟨"HornRocksModel", "nextToken", "()V"⟩ : MethodName), 1, (Option.none : Option Jvm.ClassFile.FieldType), 6, 2, 42, 0),
  (prog_8_method_54_code, (⟨"HornRocksModel", "isLetter", "(I)Z"⟩ : MethodName), 1, (Option.some Jvm.ClassFile.FieldType.boolean), 6, 1, 22, 1),
  (prog_8_method_55_code, (⟨"HornRocksModel", "isDigit", "(I)Z"⟩ : MethodName), 1, (Option.some Jvm.ClassFile.FieldType.boolean), 6, 1, 22, 1),
  (prog_8_method_61_code, (⟨"HornRocksModel", "readsItem", "()Z"⟩ : MethodName), 2, (Option.some Jvm.ClassFile.FieldType.boolean), 6, 5, 110, 0),
  (prog_8_method_57_code, (⟨"HornRocksModel", "wordOf", "([C)I"⟩ : MethodName), 7, (Option.some Jvm.ClassFile.FieldType.int), 6, 0, 0, 1),
  (prog_8_method_59_code, (⟨"HornRocksModel", "readsRock", "(I)Z"⟩ : MethodName), 6, (Option.some Jvm.ClassFile.FieldType.boolean), 6, 4, 85, 1),
  (prog_8_method_58_code, (⟨"HornRocksModel", "takesNumber", "(II)I"⟩ : MethodName), 4, (Option.some Jvm.ClassFile.FieldType.int), 6, 3, 62, 2),
  (prog_8_method_60_code, (⟨"HornRocksModel", "readsShip", "()Z"⟩ : MethodName), 3, (Option.some Jvm.ClassFile.FieldType.boolean), 6, 4, 85, 0),
  (prog_8_method_67_code, (⟨"HornRocksModel", "sheet", "(III)I"⟩ : MethodName), 5, (Option.some Jvm.ClassFile.FieldType.int), 6, 2, 42, 3),
  (prog_8_method_63_code, (⟨"HornRocksModel", "isSheet", "(I)Z"⟩ : MethodName), 1, (Option.some Jvm.ClassFile.FieldType.boolean), 6, 1, 22, 1),
  (prog_8_method_68_code, (⟨"HornRocksModel", "write", "(IIJ)J"⟩ : MethodName), 8, (Option.some Jvm.ClassFile.FieldType.long), 6, 3, 63, 3)]
def hr_tb9 : List (ByteArray × MethodName × Nat × Option FieldType × Nat × Nat × Nat × Nat) := [(prog_8_method_64_code, (⟨"HornRocksModel", "wrongSheet", "(I)I"⟩ : MethodName), 2, (Option.some Jvm.ClassFile.FieldType.int), 6, 2, 42, 1),
  (prog_8_method_65_code, (⟨"HornRocksModel", "told", "(II)J"⟩ : MethodName), 3, (Option.some Jvm.ClassFile.FieldType.long), 6, 0, 0, 2),
  (prog_8_method_66_code, (⟨"HornRocksModel", "tells", "(IIJ)V"⟩ : MethodName), 5, (Option.none : Option Jvm.ClassFile.FieldType), 6, 0, 0, 3),
  (prog_8_method_69_code, (⟨"HornRocksModel", "copy", "(IIIII)I"⟩ : MethodName), 7, (Option.some Jvm.ClassFile.FieldType.int), 6, 2, 42, 5),
  (prog_8_method_70_code, (⟨"HornRocksModel", "lays", "(I)I"⟩ : MethodName), 6, (Option.some Jvm.ClassFile.FieldType.int), 6, 3, 63, 1),
  (prog_8_method_71_code, (⟨"HornRocksModel", "book", "(I)I"⟩ : MethodName), 4, (Option.some Jvm.ClassFile.FieldType.int), 6, 6, 139, 1),
  (prog_8_method_73_code, (⟨"HornRocksModel", "read", "(I)I"⟩ : MethodName), 5, (Option.some Jvm.ClassFile.FieldType.int), 6, 7, 162, 1),
  (prog_8_method_72_code, (⟨"HornRocksModel", "isSo", "(I)Z"⟩ : MethodName), 4, (Option.some Jvm.ClassFile.FieldType.boolean), 6, 6, 139, 1),
  (prog_8_method_74_code, (⟨"HornRocksModel", "image", "()I"⟩ : MethodName), 2, (Option.some Jvm.ClassFile.FieldType.int), 6, 0, 0, 0),
  (prog_8_method_75_code, (⟨"HornRocksModel", "undo", "()I"⟩ : MethodName), 2, (Option.some Jvm.ClassFile.FieldType.int), 6, 1, 21, 0),
  (prog_8_method_76_code, (⟨"HornRocksModel", "tear", "()I"⟩ : MethodName), 2, (Option.some Jvm.ClassFile.FieldType.int), 6, 0, 0, 0),
  (prog_8_method_78_code, (⟨"HornRocksModel", "count", "(I)I"⟩ : MethodName), 2, (Option.some Jvm.ClassFile.FieldType.int), 6, 2, 45, 1),
  (prog_8_method_77_code, (⟨"HornRocksModel", "sumOf", "(I)I"⟩ : MethodName), 4, (Option.some Jvm.ClassFile.FieldType.int), 6, 1, 22, 1),
  (prog_8_method_79_code, (⟨"HornRocksModel", "status", "(I)I"⟩ : MethodName), 4, (Option.some Jvm.ClassFile.FieldType.int), 6, 1, 22, 1),
  (code, (⟨"HornRocksLaw", "law", "([I)Z"⟩ : MethodName), 4, (Option.some Jvm.ClassFile.FieldType.boolean), 7, 11, 238, 1)]
def hr_tb : List (ByteArray × MethodName × Nat × Option FieldType × Nat × Nat × Nat × Nat) := (hr_tb0 ++ (hr_tb1 ++ (hr_tb2 ++ (hr_tb3 ++ (hr_tb4 ++ (hr_tb5 ++ (hr_tb6 ++ (hr_tb7 ++ (hr_tb8 ++ hr_tb9)))))))))
def hr_d0 : ByteArray × MethodName × Nat × Option FieldType × Nat × Nat × Nat × Nat := (ByteArray.empty, ⟨"", "", ""⟩, 0, none, 0, 0, 0, 0)
def hr_row (y : Nat) := hr_tb.getD y hr_d0
def hr_cd (y : Nat) : ByteArray := (hr_row y).1
def hr_nm (y : Nat) : MethodName := (hr_row y).2.1
def hr_mx (y : Nat) : Nat := (hr_row y).2.2.1
def hr_rt (y : Nat) : Option FieldType := (hr_row y).2.2.2.1
def hr_ow (y : Nat) : Nat := (hr_row y).2.2.2.2.1
def hr_rf (y : Nat) : Nat := (hr_row y).2.2.2.2.2.1
def hr_rl (y : Nat) : Nat := (hr_row y).2.2.2.2.2.2.1
def hr_na (y : Nat) : Nat := (hr_row y).2.2.2.2.2.2.2
def hr_on : List String := ["HornRocks$Choice", "HornRocks$Rock", "HornRocks$Sea", "HornRocks$Sheet", "HornRocks$Tape", "HornRocks", "HornRocksModel", "HornRocksLaw", "java/lang/Integer", "java/lang/Math", "java/lang/String", "java/lang/StringLatin1", "jdk/internal/util/Preconditions", "java/util/Arrays", "java/lang/StringUTF16"]
def hr_os (o : Nat) : String := hr_on.getD o ""
def hr_nM : Nat := 194
def hr_law : Nat := 194
abbrev nX_init : Nat := 0
abbrev nS_init : Nat := 1
abbrev nR_init : Nat := 2
abbrev nC_init : Nat := 3
abbrev nT_init : Nat := 4
abbrev nH_init : Nat := 5
abbrev nX_ship : Nat := 6
abbrev nX_isWithin : Nat := 7
abbrev nX_found : Nat := 8
abbrev nS_changeShip : Nat := 9
abbrev nS_placeShip : Nat := 10
abbrev nX_now : Nat := 11
abbrev nS_heardSet : Nat := 12
abbrev nR_soundAt : Nat := 13
abbrev nX_far : Nat := 14
abbrev nJM_abs : Nat := 15
abbrev nJM_max : Nat := 16
abbrev nS_isHeard : Nat := 17
abbrev nS_guide : Nat := 18
abbrev nR_lureAt : Nat := 19
abbrev nX_rock : Nat := 20
abbrev nX_isKind : Nat := 21
abbrev nX_isSquare : Nat := 22
abbrev nS_addRock : Nat := 23
abbrev nS_isFull : Nat := 24
abbrev nR_reset : Nat := 25
abbrev nX_of : Nat := 26
abbrev nX_isRock : Nat := 27
abbrev nR_wrecksIn : Nat := 28
abbrev nX_set : Nat := 29
abbrev nR_change : Nat := 30
abbrev nX_turn : Nat := 31
abbrev nX_as : Nat := 32
abbrev nR_isOfKind : Nat := 33
abbrev nX_sounds : Nat := 34
abbrev nX_loudest : Nat := 35
abbrev nS_loudestAt : Nat := 36
abbrev nX_orNone : Nat := 37
abbrev nX_watches : Nat := 38
abbrev nS_goWatches : Nat := 39
abbrev nS_goOneWatch : Nat := 40
abbrev nS_squareAhead : Nat := 41
abbrev nS_squareBy : Nat := 42
abbrev nS_neighbour : Nat := 43
abbrev nS_isWreckedHere : Nat := 44
abbrev nS_driftBars : Nat := 45
abbrev nX_on : Nat := 46
abbrev nX_tryAsItIs : Nat := 47
abbrev nS_become : Nat := 48
abbrev nR_become : Nat := 49
abbrev nX_moved : Nat := 50
abbrev nX_strikes : Nat := 51
abbrev nS_watchesToFate : Nat := 52
abbrev nX_home : Nat := 53
abbrev nX_comes : Nat := 54
abbrev nS_watchesToSquare : Nat := 55
abbrev nX_ear : Nat := 56
abbrev nC_open : Nat := 57
abbrev nC_offer : Nat := 58
abbrev nX_begin : Nat := 59
abbrev nX_silence : Nat := 60
abbrev nX_kind : Nat := 61
abbrev nX_horn : Nat := 62
abbrev nX_fewest : Nat := 63
abbrev nJI_bitCount : Nat := 64
abbrev nS_hush : Nat := 65
abbrev nX_feed : Nat := 66
abbrev nT_append : Nat := 67
abbrev nX_wipe : Nat := 68
abbrev nX_chart : Nat := 69
abbrev nT_readChart : Nat := 70
abbrev nT_advance : Nat := 71
abbrev nT_isLetter : Nat := 72
abbrev nT_isDigit : Nat := 73
abbrev nT_readDigits : Nat := 74
abbrev nT_readItem : Nat := 75
abbrev nT_takeWord : Nat := 76
abbrev nT_isWord : Nat := 77
abbrev nJS_length : Nat := 78
abbrev nJS_coder : Nat := 79
abbrev nJS_charAt : Nat := 80
abbrev nJS_isLatin1 : Nat := 81
abbrev nJL_charAt : Nat := 82
abbrev nJS_checkIndex : Nat := 83
abbrev nJP_checkIndex : Nat := 84
abbrev nJU_charAt : Nat := 85
abbrev nJU_checkIndex : Nat := 86
abbrev nJU_length : Nat := 87
abbrev nJU_getChar : Nat := 88
abbrev nT_readShip : Nat := 89
abbrev nT_takeNumber : Nat := 90
abbrev nT_kindNamed : Nat := 91
abbrev nT_nameOf : Nat := 92
abbrev nT_readRock : Nat := 93
abbrev nX_sheet : Nat := 94
abbrev nX_isSheet : Nat := 95
abbrev nH_renew : Nat := 96
abbrev nJA_fill : Nat := 97
abbrev nX_write : Nat := 98
abbrev nX_faultOfSheet : Nat := 99
abbrev nH_isMissing : Nat := 100
abbrev nH_put : Nat := 101
abbrev nX_copy : Nat := 102
abbrev nH_hasRange : Nat := 103
abbrev nX_lays : Nat := 104
abbrev nX_book : Nat := 105
abbrev nX_read : Nat := 106
abbrev nH_isTrackOf : Nat := 107
abbrev nX_image : Nat := 108
abbrev nX_undo : Nat := 109
abbrev nX_tear : Nat := 110
abbrev nX_count : Nat := 111
abbrev nS_silentRocks : Nat := 112
abbrev nS_allHorns : Nat := 113
abbrev nX_status : Nat := 114
abbrev nM_init : Nat := 115
abbrev nM_ship : Nat := 116
abbrev nM_in1 : Nat := 117
abbrev nM_no : Nat := 118
abbrev nM_placesShip : Nat := 119
abbrev nM_now : Nat := 120
abbrev nM_heard : Nat := 121
abbrev nM_hearsOf : Nat := 122
abbrev nM_soundsAt : Nat := 123
abbrev nM_get : Nat := 124
abbrev nM_farOf : Nat := 125
abbrev nM_guide : Nat := 126
abbrev nM_luresAt : Nat := 127
abbrev nM_rock : Nat := 128
abbrev nM_isSquare : Nat := 129
abbrev nM_addsRock : Nat := 130
abbrev nM_puts : Nat := 131
abbrev nM_of : Nat := 132
abbrev nM_isRock : Nat := 133
abbrev nM_wrecksNow : Nat := 134
abbrev nM_set : Nat := 135
abbrev nM_turn : Nat := 136
abbrev nM_as : Nat := 137
abbrev nM_sounds : Nat := 138
abbrev nM_loudest : Nat := 139
abbrev nM_watches : Nat := 140
abbrev nM_goes : Nat := 141
abbrev nM_watch : Nat := 142
abbrev nM_sails : Nat := 143
abbrev nM_goesBy : Nat := 144
abbrev nM_besideOf : Nat := 145
abbrev nM_drifts : Nat := 146
abbrev nM_on : Nat := 147
abbrev nM_thenAt : Nat := 148
abbrev nM_setsAside : Nat := 149
abbrev nM_laysBack : Nat := 150
abbrev nM_moved : Nat := 151
abbrev nM_strikes : Nat := 152
abbrev nM_whenBy : Nat := 153
abbrev nM_firstBy : Nat := 154
abbrev nM_home : Nat := 155
abbrev nM_comes : Nat := 156
abbrev nM_ear : Nat := 157
abbrev nM_less : Nat := 158
abbrev nM_begin : Nat := 159
abbrev nM_silence : Nat := 160
abbrev nM_kind : Nat := 161
abbrev nM_horn : Nat := 162
abbrev nM_fewest : Nat := 163
abbrev nM_bits : Nat := 164
abbrev nM_isSafeBy : Nat := 165
abbrev nM_feed : Nat := 166
abbrev nM_wipe : Nat := 167
abbrev nM_chart : Nat := 168
abbrev nM_nextToken : Nat := 169
abbrev nM_isLetter : Nat := 170
abbrev nM_isDigit : Nat := 171
abbrev nM_readsItem : Nat := 172
abbrev nM_wordOf : Nat := 173
abbrev nM_readsRock : Nat := 174
abbrev nM_takesNumber : Nat := 175
abbrev nM_readsShip : Nat := 176
abbrev nM_sheet : Nat := 177
abbrev nM_isSheet : Nat := 178
abbrev nM_write : Nat := 179
abbrev nM_wrongSheet : Nat := 180
abbrev nM_told : Nat := 181
abbrev nM_tells : Nat := 182
abbrev nM_copy : Nat := 183
abbrev nM_lays : Nat := 184
abbrev nM_book : Nat := 185
abbrev nM_read : Nat := 186
abbrev nM_isSo : Nat := 187
abbrev nM_image : Nat := 188
abbrev nM_undo : Nat := 189
abbrev nM_tear : Nat := 190
abbrev nM_count : Nat := 191
abbrev nM_sumOf : Nat := 192
abbrev nM_status : Nat := 193
abbrev nL_law : Nat := 194
/-- fields: own class, place in its pool, class, slot, place of the word -/
def hr_lf : List (Nat × Nat × Nat × Nat × Nat) := [(1, 9, 1, 0, 77), (5, 110, 1, 0, 78), (1, 15, 1, 1, 79), (5, 115, 1, 1, 80), (2, 76, 1, 1, 81), (1, 18, 1, 2, 82), (5, 116, 1, 2, 83), (4, 83, 1, 2, 84), (2, 102, 1, 2, 85), (1, 21, 1, 3, 86), (5, 119, 1, 3, 87), (4, 89, 1, 3, 88), (1, 24, 1, 4, 89), (5, 122, 1, 4, 90), (4, 93, 1, 4, 91), (2, 96, 1, 4, 92), (2, 9, 2, 0, 104), (5, 66, 2, 0, 105), (2, 15, 2, 1, 106), (5, 70, 2, 1, 107), (3, 28, 2, 1, 108), (2, 18, 2, 2, 109), (5, 73, 2, 2, 110), (4, 68, 2, 2, 111), (2, 21, 2, 3, 112), (5, 76, 2, 3, 113), (4, 72, 2, 3, 114), (2, 24, 2, 4, 115), (5, 79, 2, 4, 116), (2, 27, 2, 5, 117), (5, 100, 2, 5, 118), (2, 32, 2, 6, 119), (5, 106, 2, 6, 120), (0, 10, 0, 0, 142), (5, 174, 0, 0, 143), (0, 16, 0, 1, 144), (4, 9, 4, 0, 156), (4, 15, 4, 1, 157), (5, 188, 4, 1, 158), (4, 32, 4, 2, 159), (4, 29, 4, 3, 160), (4, 19, 4, 4, 161), (4, 98, 4, 5, 162), (3, 9, 3, 0, 184), (5, 224, 3, 0, 185), (3, 15, 3, 1, 186), (5, 208, 3, 1, 187), (3, 18, 3, 2, 188), (5, 212, 3, 2, 189), (5, 10, 5, 0, 198), (5, 16, 5, 1, 199), (5, 19, 5, 2, 200), (5, 22, 5, 3, 201), (5, 29, 5, 4, 202), (5, 36, 5, 5, 203), (5, 42, 5, 6, 204), (5, 47, 5, 7, 205), (6, 9, 6, 0, 703), (6, 13, 6, 1, 704), (6, 16, 6, 2, 705), (6, 221, 6, 3, 706), (6, 19, 6, 4, 707), (6, 22, 6, 5, 708), (6, 147, 6, 6, 709), (6, 161, 6, 7, 710), (6, 154, 6, 8, 711), (6, 151, 6, 9, 712), (6, 157, 6, 10, 713), (6, 25, 6, 11, 714), (6, 29, 6, 12, 715), (6, 32, 6, 13, 716), (6, 35, 6, 14, 717), (6, 38, 6, 15, 718), (6, 41, 6, 16, 719), (6, 45, 6, 17, 720)]
/-- calls: own class, place in its pool, method, kind (0 virtual, 1 static, 2 static of a nest mate), places of the words -/
def hr_lm0 : List (Nat × Nat × Nat × Nat × Nat × Nat × Nat × Nat) := [(7, 13, 6, 0, 224, 225, 226, 41), (5, 54, 7, 1, 230, 231, 0, 41), (5, 58, 8, 0, 233, 235, 0, 41), (5, 62, 9, 0, 238, 239, 240, 42), (2, 49, 10, 0, 242, 243, 244, 42), (7, 18, 11, 0, 246, 247, 248, 41), (5, 82, 12, 0, 250, 251, 252, 42), (2, 54, 13, 0, 254, 255, 256, 43), (1, 31, 14, 2, 258, 259, 0, 41), (5, 253, 15, 1, 261, 262, 0, 48), (1, 35, 16, 1, 264, 265, 0, 48), (2, 58, 17, 0, 267, 268, 269, 42), (5, 86, 18, 0, 271, 272, 273, 42), (2, 62, 19, 0, 275, 276, 277, 43), (7, 23, 20, 0, 279, 280, 281, 41), (5, 89, 21, 1, 283, 284, 0, 41), (5, 93, 22, 1, 286, 287, 0, 41), (5, 96, 23, 0, 289, 290, 291, 42), (2, 41, 24, 0, 293, 294, 295, 42), (2, 45, 25, 0, 297, 298, 299, 43), (7, 27, 26, 0, 301, 302, 303, 41), (5, 103, 27, 0, 305, 307, 1, 41), (5, 125, 14, 1, 309, 259, 0, 41), (5, 128, 13, 0, 310, 255, 256, 43), (5, 131, 19, 0, 311, 276, 277, 43), (5, 134, 28, 0, 312, 313, 314, 43), (7, 31, 29, 0, 316, 317, 318, 41), (5, 140, 30, 0, 322, 323, 324, 43), (7, 36, 31, 0, 326, 327, 328, 41), (7, 40, 32, 0, 330, 331, 332, 41), (5, 143, 33, 0, 334, 335, 336, 43), (7, 44, 34, 0, 340, 341, 342, 41), (7, 48, 35, 0, 344, 345, 346, 41), (5, 146, 36, 0, 348, 349, 350, 42), (5, 149, 37, 0, 353, 355, 2, 41), (7, 52, 38, 0, 358, 359, 360, 41), (5, 153, 39, 0, 363, 364, 365, 42), (2, 66, 40, 0, 367, 368, 369, 42), (2, 69, 18, 0, 371, 272, 273, 42), (2, 73, 41, 0, 372, 373, 374, 42), (2, 77, 42, 0, 376, 377, 378, 42), (2, 87, 43, 0, 381, 382, 383, 42), (2, 90, 14, 2, 385, 259, 0, 41), (2, 80, 44, 0, 386, 387, 388, 42), (2, 93, 28, 0, 390, 313, 314, 43), (2, 83, 45, 0, 391, 392, 393, 42), (2, 99, 33, 0, 395, 335, 336, 43), (7, 56, 46, 0, 396, 397, 398, 41), (5, 157, 47, 0, 400, 402, 3, 41), (5, 198, 48, 0, 404, 405, 406, 42), (2, 37, 49, 0, 408, 409, 410, 43), (7, 60, 50, 0, 412, 413, 414, 41), (7, 64, 51, 0, 416, 417, 418, 41), (5, 160, 52, 0, 420, 421, 422, 42), (7, 69, 53, 0, 424, 425, 426, 41), (7, 73, 54, 0, 428, 429, 430, 41), (5, 163, 55, 0, 432, 433, 434, 42), (7, 77, 56, 0, 436, 437, 438, 41), (5, 167, 57, 0, 440, 441, 442, 44), (5, 170, 58, 0, 445, 446, 447, 44)]
def hr_lm1 : List (Nat × Nat × Nat × Nat × Nat × Nat × Nat × Nat) := [(7, 81, 59, 0, 449, 450, 451, 41), (5, 177, 10, 0, 453, 243, 244, 42), (7, 85, 60, 0, 454, 455, 456, 41), (7, 89, 61, 0, 458, 459, 460, 41), (7, 93, 62, 0, 462, 463, 464, 41), (7, 97, 63, 0, 466, 467, 468, 41), (5, 180, 64, 1, 470, 471, 0, 49), (5, 185, 65, 0, 476, 477, 478, 42), (7, 101, 66, 0, 480, 481, 482, 41), (5, 191, 67, 0, 484, 485, 486, 45), (7, 105, 68, 0, 488, 489, 490, 41), (7, 109, 69, 0, 492, 493, 494, 41), (5, 194, 70, 0, 496, 497, 498, 45), (4, 22, 71, 0, 500, 501, 502, 45), (4, 125, 72, 1, 504, 505, 0, 45), (4, 129, 73, 1, 507, 508, 0, 45), (4, 132, 74, 0, 510, 511, 512, 45), (4, 25, 75, 0, 514, 515, 516, 45), (4, 37, 76, 0, 519, 520, 521, 45), (4, 95, 77, 0, 523, 524, 525, 45), (4, 117, 78, 0, 527, 528, 529, 50), (10, 335, 79, 0, 531, 532, 533, 50), (4, 121, 80, 0, 537, 538, 539, 50), (10, 492, 81, 0, 541, 542, 543, 50), (10, 495, 82, 1, 545, 546, 0, 51), (11, 9, 83, 1, 548, 549, 0, 50), (10, 1059, 84, 1, 553, 554, 0, 52), (10, 498, 85, 1, 556, 557, 0, 53), (14, 67, 86, 1, 559, 560, 0, 53), (14, 48, 87, 1, 562, 563, 0, 53), (14, 414, 83, 1, 565, 549, 0, 50), (14, 71, 88, 1, 566, 567, 0, 53), (4, 41, 89, 0, 575, 576, 577, 45), (4, 58, 90, 0, 579, 580, 581, 45), (4, 62, 10, 0, 583, 243, 244, 42), (4, 44, 91, 0, 586, 587, 588, 45), (4, 101, 92, 1, 590, 591, 0, 45), (4, 48, 24, 0, 599, 294, 295, 42), (4, 54, 93, 0, 600, 601, 602, 45), (4, 77, 23, 0, 605, 290, 291, 42), (7, 113, 94, 0, 609, 610, 611, 41), (5, 202, 95, 1, 613, 614, 0, 41), (5, 205, 96, 0, 616, 617, 618, 46), (3, 22, 97, 1, 620, 621, 0, 54), (7, 119, 98, 0, 623, 624, 625, 41), (5, 209, 99, 0, 627, 629, 4, 41), (5, 220, 100, 0, 631, 632, 633, 46), (5, 216, 101, 0, 635, 636, 637, 46), (7, 124, 102, 0, 639, 640, 641, 41), (5, 227, 103, 0, 643, 644, 645, 46), (7, 129, 104, 0, 650, 651, 652, 41), (7, 133, 105, 0, 655, 656, 657, 41), (5, 239, 40, 0, 659, 368, 369, 42), (7, 137, 106, 0, 660, 661, 662, 41), (5, 242, 107, 0, 664, 665, 666, 46), (3, 33, 40, 0, 668, 368, 369, 42), (7, 141, 108, 0, 669, 670, 671, 41), (7, 145, 109, 0, 673, 674, 675, 41), (7, 149, 110, 0, 677, 678, 679, 41), (7, 153, 111, 0, 681, 682, 683, 41)]
def hr_lm2 : List (Nat × Nat × Nat × Nat × Nat × Nat × Nat × Nat) := [(5, 246, 112, 0, 685, 686, 687, 42), (5, 249, 113, 0, 689, 690, 691, 42), (7, 157, 114, 0, 693, 694, 695, 41), (7, 17, 116, 0, 759, 760, 761, 47), (6, 49, 117, 1, 763, 764, 0, 47), (6, 98, 118, 0, 766, 768, 5, 47), (6, 101, 119, 0, 771, 773, 6, 47), (7, 22, 120, 0, 775, 776, 777, 47), (6, 104, 121, 0, 779, 781, 7, 47), (6, 66, 122, 0, 783, 785, 8, 47), (6, 60, 123, 0, 787, 789, 9, 47), (6, 53, 124, 0, 791, 793, 10, 47), (6, 57, 125, 1, 795, 796, 0, 47), (6, 74, 126, 0, 798, 800, 11, 47), (6, 63, 127, 0, 802, 804, 12, 47), (7, 26, 128, 0, 806, 807, 808, 47), (6, 107, 129, 1, 810, 811, 0, 47), (6, 110, 130, 0, 813, 815, 13, 47), (6, 84, 131, 0, 817, 819, 14, 47), (7, 30, 132, 0, 821, 822, 823, 47), (6, 114, 133, 0, 825, 827, 15, 47), (6, 81, 134, 0, 829, 831, 16, 47), (7, 35, 135, 0, 833, 834, 835, 47), (7, 39, 136, 0, 837, 838, 839, 47), (7, 43, 137, 0, 841, 842, 843, 47), (7, 47, 138, 0, 845, 846, 847, 47), (7, 51, 139, 0, 849, 850, 851, 47), (7, 55, 140, 0, 853, 854, 855, 47), (6, 118, 141, 0, 858, 860, 17, 47), (6, 95, 142, 0, 862, 864, 18, 47), (6, 88, 143, 0, 866, 868, 19, 47), (6, 78, 144, 0, 870, 872, 20, 47), (6, 70, 145, 0, 874, 876, 21, 47), (6, 91, 146, 0, 878, 880, 22, 47), (7, 59, 147, 0, 882, 883, 884, 47), (6, 127, 148, 0, 886, 888, 23, 47), (6, 121, 149, 0, 890, 892, 24, 47), (6, 124, 150, 0, 894, 896, 25, 47), (7, 63, 151, 0, 898, 899, 900, 47), (7, 68, 152, 0, 902, 903, 904, 47), (6, 134, 153, 0, 906, 908, 26, 47), (6, 130, 154, 0, 910, 912, 27, 47), (7, 72, 155, 0, 914, 915, 916, 47), (7, 76, 156, 0, 918, 919, 920, 47), (7, 80, 157, 0, 922, 923, 924, 47), (6, 137, 158, 1, 926, 927, 0, 47), (7, 84, 159, 0, 929, 930, 931, 47), (7, 88, 160, 0, 933, 934, 935, 47), (7, 92, 161, 0, 937, 938, 939, 47), (7, 96, 162, 0, 941, 942, 943, 47), (7, 100, 163, 0, 945, 946, 947, 47), (6, 140, 164, 1, 949, 950, 0, 47), (6, 143, 165, 0, 952, 954, 28, 47), (7, 104, 166, 0, 956, 957, 958, 47), (7, 108, 167, 0, 960, 961, 962, 47), (7, 112, 168, 0, 964, 965, 966, 47), (6, 182, 169, 0, 968, 970, 29, 47), (6, 164, 170, 1, 972, 973, 0, 47), (6, 173, 171, 1, 978, 979, 0, 47), (6, 199, 172, 0, 984, 986, 30, 47)]
def hr_lm3 : List (Nat × Nat × Nat × Nat × Nat × Nat × Nat × Nat) := [(6, 185, 173, 0, 988, 990, 31, 47), (6, 192, 174, 0, 992, 994, 32, 47), (6, 189, 175, 0, 996, 998, 33, 47), (6, 195, 176, 0, 1000, 1002, 34, 47), (7, 116, 177, 0, 1004, 1005, 1006, 47), (6, 202, 178, 1, 1008, 1009, 0, 47), (7, 123, 179, 0, 1011, 1012, 1013, 47), (6, 205, 180, 0, 1015, 1017, 35, 47), (6, 208, 181, 0, 1019, 1021, 36, 47), (6, 212, 182, 0, 1023, 1025, 37, 47), (7, 128, 183, 0, 1027, 1028, 1029, 47), (7, 132, 184, 0, 1031, 1032, 1033, 47), (7, 136, 185, 0, 1036, 1037, 1038, 47), (7, 140, 186, 0, 1040, 1041, 1042, 47), (6, 218, 187, 0, 1044, 1046, 38, 47), (7, 144, 188, 0, 1048, 1049, 1050, 47), (7, 148, 189, 0, 1052, 1053, 1054, 47), (7, 152, 190, 0, 1056, 1057, 1058, 47), (7, 156, 191, 0, 1060, 1061, 1062, 47), (6, 225, 192, 0, 1064, 1066, 39, 47), (7, 160, 193, 0, 1068, 1069, 1070, 47)]
def hr_lm : List (Nat × Nat × Nat × Nat × Nat × Nat × Nat × Nat) := (hr_lm0 ++ (hr_lm1 ++ (hr_lm2 ++ hr_lm3)))
def hr_lc : List (Nat × Nat × Int32 × Nat) := [(5, 252, (-1000000001), 237), (2, 53, (1000000), 352), (5, 166, (1000000), 357), (5, 152, (99999), 362), (2, 86, (-1000000), 380), (0, 9, (1000000), 444), (8, 265, (1431655765), 473), (8, 266, (858993459), 474), (8, 267, (252645135), 475), (6, 48, (-1000000001), 770), (6, 117, (99999), 857)]
def hr_ll : List (Nat × Nat × Int64 × Nat) := [(5, 237, (99), 654), (6, 167, (9999999999999), 975), (6, 169, (27), 976), (6, 171, (96), 977), (6, 176, (999), 981), (6, 178, (10), 982), (6, 180, (48), 983), (6, 216, (99), 1035), (7, 117, (4294967295), 1072)]
/-- text constants of HornRocks$Tape (own class 4): place in its pool, the text -/
def hr_ls : List (Nat × String) := [(35, "ship"), (66, "ear"), (70, "longing"), (105, "granite"), (107, "bar"), (109, "buoy"), (111, "maid"), (113, "shoal"), (115, "rock"), (75, "at"), (81, "horn"), (87, "sweet"), (91, "silent")]
def hr_sl : List Nat := [4, 3, 7, 7, 3, 4, 4, 5, 4, 2, 4, 5, 6]
def hr_sb : List (List Int32) := [[115, 104, 105, 112], [101, 97, 114], [108, 111, 110, 103, 105, 110, 103], [103, 114, 97, 110, 105, 116, 101], [98, 97, 114], [98, 117, 111, 121], [109, 97, 105, 100], [115, 104, 111, 97, 108], [114, 111, 99, 107], [97, 116], [104, 111, 114, 110], [115, 119, 101, 101, 116], [115, 105, 108, 101, 110, 116]]
def hr_pl : List Nat := [60, 68, 75, 140, 154, 182, 227, 232, 236, 241, 245, 249, 253, 257, 260, 263, 266, 270, 274, 278, 282, 285, 288, 292, 296, 300, 304, 308, 315, 319, 325, 329, 333, 337, 343, 347, 351, 356, 361, 366, 370, 375, 379, 384, 389, 394, 399, 403, 407, 411, 415, 419, 423, 427, 431, 435, 439, 443, 448, 452, 457, 461, 465, 469, 472, 479, 483, 487, 491, 495, 499, 503, 506, 509, 513, 517, 522, 526, 530, 534, 540, 544, 547, 550, 555, 558, 561, 564, 568, 578, 582, 589, 592, 603, 612, 615, 619, 622, 626, 630, 634, 638, 642, 646, 653, 658, 663, 667, 672, 676, 680, 684, 688, 692, 696, 701, 762, 765, 769, 774, 778, 782, 786, 790, 794, 797, 801, 805, 809, 812, 816, 820, 824, 828, 832, 836, 840, 844, 848, 852, 856, 861, 865, 869, 873, 877, 881, 885, 889, 893, 897, 901, 905, 909, 913, 917, 921, 925, 928, 932, 936, 940, 944, 948, 951, 955, 959, 963, 967, 971, 974, 980, 987, 991, 995, 999, 1003, 1007, 1010, 1014, 1018, 1022, 1026, 1030, 1034, 1039, 1043, 1047, 1051, 1055, 1059, 1063, 1067, 1071]
