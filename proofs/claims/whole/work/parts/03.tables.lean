def RX0 : String := "EventLog$Block"
def TX0 : u_T := fun k => match k with
  | 0 => ("EventLog$Block", "writer", "I", true)
  | 1 => ("EventLog$Block", "events", "LEventLog$Row;", true)
  | 2 => ("EventLog$Block", "lasts", "[I", true)
  | 3 => ("EventLog$Block", "order", "I", false)
  | 4 => ("EventLog$Block", "firstTime", "J", false)
  | _ => ("EventLog$Block", "lastTime", "J", false)
def tyX0 : Nat → FieldType := fun k => match k with
  | 0 => .int
  | 1 => .object "EventLog$Row"
  | 2 => .array .int
  | 3 => .int
  | 4 => .long
  | _ => .long
theorem nmX0 : ∀ a, a < 6 → ∀ b, b < 6 → a ≠ b → (TX0 a).2.1 ≠ (TX0 b).2.1 := by decide +kernel
theorem tyX0_ok : ∀ k, k < 6 → parseFieldDescriptor (TX0 k).2.2.1 = some (tyX0 k) := by decide +kernel
def RX1 : String := "EventLog$Event"
def TX1 : u_T := fun k => match k with
  | 0 => ("EventLog$Event", "isText", "[Z", true)
  | 1 => ("EventLog$Event", "numbers", "[I", true)
  | 2 => ("EventLog$Event", "texts", "[B", true)
  | 3 => ("EventLog$Event", "used", "I", false)
  | 4 => ("EventLog$Event", "writer", "I", false)
  | 5 => ("EventLog$Event", "origin", "I", false)
  | _ => ("EventLog$Event", "when", "J", false)
def tyX1 : Nat → FieldType := fun k => match k with
  | 0 => .array .boolean
  | 1 => .array .int
  | 2 => .array .byte
  | 3 => .int
  | 4 => .int
  | 5 => .int
  | _ => .long
theorem nmX1 : ∀ a, a < 7 → ∀ b, b < 7 → a ≠ b → (TX1 a).2.1 ≠ (TX1 b).2.1 := by decide +kernel
theorem tyX1_ok : ∀ k, k < 7 → parseFieldDescriptor (TX1 k).2.2.1 = some (tyX1 k) := by decide +kernel
def RX2 : String := "EventLog$Format"
def TX2 : u_T := fun k => match k with
  | 0 => ("EventLog$Format", "spelling", "LEventLog$Row;", true)
  | 1 => ("EventLog$Format", "pieces", "[I", true)
  | 2 => ("EventLog$Format", "kinds", "[I", true)
  | 3 => ("EventLog$Format", "digits", "[I", true)
  | 4 => ("EventLog$Format", "pieceCount", "I", false)
  | 5 => ("EventLog$Format", "slots", "I", false)
  | _ => ("EventLog$Format", "state", "I", false)
def tyX2 : Nat → FieldType := fun k => match k with
  | 0 => .object "EventLog$Row"
  | 1 => .array .int
  | 2 => .array .int
  | 3 => .array .int
  | 4 => .int
  | 5 => .int
  | _ => .int
theorem nmX2 : ∀ a, a < 7 → ∀ b, b < 7 → a ≠ b → (TX2 a).2.1 ≠ (TX2 b).2.1 := by decide +kernel
theorem tyX2_ok : ∀ k, k < 7 → parseFieldDescriptor (TX2 k).2.2.1 = some (tyX2 k) := by decide +kernel
def RX3 : String := "EventLog$Lines"
def TX3 : u_T := fun k => match k with
  | 0 => ("EventLog$Lines", "pool", "Ljava/util/ArrayList;", true)
  | 1 => ("EventLog$Lines", "sorted", "Ljava/util/ArrayList;", true)
  | 2 => ("EventLog$Lines", "unpacker", "LEventLog$Unpacker;", true)
  | 3 => ("EventLog$Lines", "used", "I", false)
  | _ => ("EventLog$Lines", "brokenParts", "I", false)
def tyX3 : Nat → FieldType := fun k => match k with
  | 0 => .object "java/util/ArrayList"
  | 1 => .object "java/util/ArrayList"
  | 2 => .object "EventLog$Unpacker"
  | 3 => .int
  | _ => .int
theorem nmX3 : ∀ a, a < 5 → ∀ b, b < 5 → a ≠ b → (TX3 a).2.1 ≠ (TX3 b).2.1 := by decide +kernel
theorem tyX3_ok : ∀ k, k < 5 → parseFieldDescriptor (TX3 k).2.2.1 = some (tyX3 k) := by decide +kernel
def RX4 : String := "EventLog$LogFile"
def TX4 : u_T := fun k => match k with
  | 0 => ("EventLog$LogFile", "bytes", "LEventLog$Row;", true)
  | 1 => ("EventLog$LogFile", "durable", "I", false)
  | _ => ("EventLog$LogFile", "cut", "Z", false)
def tyX4 : Nat → FieldType := fun k => match k with
  | 0 => .object "EventLog$Row"
  | 1 => .int
  | _ => .boolean
theorem nmX4 : ∀ a, a < 3 → ∀ b, b < 3 → a ≠ b → (TX4 a).2.1 ≠ (TX4 b).2.1 := by decide +kernel
theorem tyX4_ok : ∀ k, k < 3 → parseFieldDescriptor (TX4 k).2.2.1 = some (tyX4 k) := by decide +kernel
def RX5 : String := "EventLog$Names"
def TX5 : u_T := fun k => match k with
  | 0 => ("EventLog$Names", "bytes", "[B", true)
  | _ => ("EventLog$Names", "sizes", "[I", true)
def tyX5 : Nat → FieldType := fun k => match k with
  | 0 => .array .byte
  | _ => .array .int
theorem nmX5 : ∀ a, a < 2 → ∀ b, b < 2 → a ≠ b → (TX5 a).2.1 ≠ (TX5 b).2.1 := by decide +kernel
theorem tyX5_ok : ∀ k, k < 2 → parseFieldDescriptor (TX5 k).2.2.1 = some (tyX5 k) := by decide +kernel
def RX6 : String := "EventLog$NumberSet"
def TX6 : u_T := fun k => match k with
  | 0 => ("EventLog$NumberSet", "numbers", "[I", false)
  | _ => ("EventLog$NumberSet", "used", "I", false)
def tyX6 : Nat → FieldType := fun k => match k with
  | 0 => .array .int
  | _ => .int
theorem nmX6 : ∀ a, a < 2 → ∀ b, b < 2 → a ≠ b → (TX6 a).2.1 ≠ (TX6 b).2.1 := by decide +kernel
theorem tyX6_ok : ∀ k, k < 2 → parseFieldDescriptor (TX6 k).2.2.1 = some (tyX6 k) := by decide +kernel
def RX7 : String := "EventLog$Printer"
def TX7 : u_T := fun k => match k with
  | 0 => ("EventLog$Printer", "names", "LEventLog$Names;", true)
  | 1 => ("EventLog$Printer", "out", "LEventLog$Row;", true)
  | _ => ("EventLog$Printer", "digits", "[I", true)
def tyX7 : Nat → FieldType := fun k => match k with
  | 0 => .object "EventLog$Names"
  | 1 => .object "EventLog$Row"
  | _ => .array .int
theorem nmX7 : ∀ a, a < 3 → ∀ b, b < 3 → a ≠ b → (TX7 a).2.1 ≠ (TX7 b).2.1 := by decide +kernel
theorem tyX7_ok : ∀ k, k < 3 → parseFieldDescriptor (TX7 k).2.2.1 = some (tyX7 k) := by decide +kernel
def RX8 : String := "EventLog$Query"
def TX8 : u_T := fun k => match k with
  | 0 => ("EventLog$Query", "kinds", "[I", true)
  | 1 => ("EventLog$Query", "subjects", "[I", true)
  | 2 => ("EventLog$Query", "bounds", "[I", true)
  | 3 => ("EventLog$Query", "parts", "[LEventLog$Row;", true)
  | _ => ("EventLog$Query", "used", "I", false)
def tyX8 : Nat → FieldType := fun k => match k with
  | 0 => .array .int
  | 1 => .array .int
  | 2 => .array .int
  | 3 => .array (.object "EventLog$Row")
  | _ => .int
theorem nmX8 : ∀ a, a < 5 → ∀ b, b < 5 → a ≠ b → (TX8 a).2.1 ≠ (TX8 b).2.1 := by decide +kernel
theorem tyX8_ok : ∀ k, k < 5 → parseFieldDescriptor (TX8 k).2.2.1 = some (tyX8 k) := by decide +kernel
def RX9 : String := "EventLog$Row"
def TX9 : u_T := fun k => match k with
  | 0 => ("EventLog$Row", "bytes", "[B", true)
  | _ => ("EventLog$Row", "used", "I", false)
def tyX9 : Nat → FieldType := fun k => match k with
  | 0 => .array .byte
  | _ => .int
theorem nmX9 : ∀ a, a < 2 → ∀ b, b < 2 → a ≠ b → (TX9 a).2.1 ≠ (TX9 b).2.1 := by decide +kernel
theorem tyX9_ok : ∀ k, k < 2 → parseFieldDescriptor (TX9 k).2.2.1 = some (tyX9 k) := by decide +kernel
def RX10 : String := "EventLog$Unpacker"
def TX10 : u_T := fun k => match k with
  | 0 => ("EventLog$Unpacker", "lasts", "[I", true)
  | 1 => ("EventLog$Unpacker", "file", "LEventLog$Row;", false)
  | 2 => ("EventLog$Unpacker", "place", "I", false)
  | 3 => ("EventLog$Unpacker", "end", "I", false)
  | 4 => ("EventLog$Unpacker", "writer", "I", false)
  | 5 => ("EventLog$Unpacker", "lastTime", "J", false)
  | _ => ("EventLog$Unpacker", "whole", "Z", false)
def tyX10 : Nat → FieldType := fun k => match k with
  | 0 => .array .int
  | 1 => .object "EventLog$Row"
  | 2 => .int
  | 3 => .int
  | 4 => .int
  | 5 => .long
  | _ => .boolean
theorem nmX10 : ∀ a, a < 7 → ∀ b, b < 7 → a ≠ b → (TX10 a).2.1 ≠ (TX10 b).2.1 := by decide +kernel
theorem tyX10_ok : ∀ k, k < 7 → parseFieldDescriptor (TX10 k).2.2.1 = some (tyX10 k) := by decide +kernel
def RX11 : String := "EventLog"
def TX11 : u_T := fun k => match k with
  | 0 => ("EventLog", "typed", "LEventLog$Row;", false)
  | 1 => ("EventLog", "typedBefore", "LEventLog$Row;", false)
  | 2 => ("EventLog", "arguments", "LEventLog$Event;", false)
  | 3 => ("EventLog", "argumentsBefore", "LEventLog$Event;", false)
  | 4 => ("EventLog", "draft", "LEventLog$Format;", false)
  | 5 => ("EventLog", "sites", "Ljava/util/ArrayList;", true)
  | 6 => ("EventLog", "blocks", "[LEventLog$Block;", true)
  | 7 => ("EventLog", "packed", "LEventLog$Row;", true)
  | 8 => ("EventLog", "file", "LEventLog$LogFile;", true)
  | 9 => ("EventLog", "lines", "LEventLog$Lines;", true)
  | 10 => ("EventLog", "printer", "LEventLog$Printer;", true)
  | 11 => ("EventLog", "query", "LEventLog$Query;", true)
  | _ => ("EventLog", "numbers", "LEventLog$NumberSet;", true)
def tyX11 : Nat → FieldType := fun k => match k with
  | 0 => .object "EventLog$Row"
  | 1 => .object "EventLog$Row"
  | 2 => .object "EventLog$Event"
  | 3 => .object "EventLog$Event"
  | 4 => .object "EventLog$Format"
  | 5 => .object "java/util/ArrayList"
  | 6 => .array (.object "EventLog$Block")
  | 7 => .object "EventLog$Row"
  | 8 => .object "EventLog$LogFile"
  | 9 => .object "EventLog$Lines"
  | 10 => .object "EventLog$Printer"
  | 11 => .object "EventLog$Query"
  | _ => .object "EventLog$NumberSet"
theorem nmX11 : ∀ a, a < 13 → ∀ b, b < 13 → a ≠ b → (TX11 a).2.1 ≠ (TX11 b).2.1 := by decide +kernel
theorem tyX11_ok : ∀ k, k < 13 → parseFieldDescriptor (TX11 k).2.2.1 = some (tyX11 k) := by decide +kernel
def RX12 : String := "EventLogModel"
def TX12 : u_T := fun k => match k with
  | 0 => ("EventLogModel", "thrown", "I", false)
  | 1 => ("EventLogModel", "size", "I", false)
  | 2 => ("EventLogModel", "text", "[I", true)
  | 3 => ("EventLogModel", "sites", "I", false)
  | 4 => ("EventLogModel", "formatSize", "[I", true)
  | 5 => ("EventLogModel", "format", "[I", true)
  | 6 => ("EventLogModel", "nameSize", "[I", true)
  | 7 => ("EventLogModel", "names", "[I", true)
  | 8 => ("EventLogModel", "args", "I", false)
  | 9 => ("EventLogModel", "argSize", "[I", true)
  | 10 => ("EventLogModel", "argNumber", "[I", true)
  | 11 => ("EventLogModel", "argText", "[I", true)
  | 12 => ("EventLogModel", "pending", "[I", true)
  | 13 => ("EventLogModel", "pendingSite", "[I", true)
  | 14 => ("EventLogModel", "pendingTime", "[J", true)
  | 15 => ("EventLogModel", "pendingSize", "[I", true)
  | 16 => ("EventLogModel", "pendingNumber", "[I", true)
  | 17 => ("EventLogModel", "pendingText", "[I", true)
  | 18 => ("EventLogModel", "latest", "[J", true)
  | 19 => ("EventLogModel", "blocks", "[I", true)
  | 20 => ("EventLogModel", "packedSize", "I", false)
  | 21 => ("EventLogModel", "packed", "[I", true)
  | 22 => ("EventLogModel", "fileSize", "I", false)
  | 23 => ("EventLogModel", "file", "[I", true)
  | 24 => ("EventLogModel", "durable", "I", false)
  | 25 => ("EventLogModel", "cut", "Z", false)
  | 26 => ("EventLogModel", "copy", "[I", true)
  | 27 => ("EventLogModel", "events", "I", false)
  | 28 => ("EventLogModel", "eventSite", "[I", true)
  | 29 => ("EventLogModel", "eventWriter", "[I", true)
  | 30 => ("EventLogModel", "eventTime", "[J", true)
  | 31 => ("EventLogModel", "slots", "[I", true)
  | 32 => ("EventLogModel", "places", "[I", true)
  | 33 => ("EventLogModel", "line", "[I", true)
  | 34 => ("EventLogModel", "broken", "I", false)
  | 35 => ("EventLogModel", "terms", "I", false)
  | 36 => ("EventLogModel", "termKind", "[I", true)
  | 37 => ("EventLogModel", "termA", "[I", true)
  | 38 => ("EventLogModel", "termB", "[I", true)
  | 39 => ("EventLogModel", "termSize", "[I", true)
  | 40 => ("EventLogModel", "termText", "[I", true)
  | 41 => ("EventLogModel", "printedSize", "I", false)
  | 42 => ("EventLogModel", "printed", "[I", true)
  | 43 => ("EventLogModel", "at", "I", false)
  | 44 => ("EventLogModel", "stop", "I", false)
  | _ => ("EventLogModel", "right", "Z", false)
def tyX12 : Nat → FieldType := fun k => match k with
  | 0 => .int
  | 1 => .int
  | 2 => .array .int
  | 3 => .int
  | 4 => .array .int
  | 5 => .array .int
  | 6 => .array .int
  | 7 => .array .int
  | 8 => .int
  | 9 => .array .int
  | 10 => .array .int
  | 11 => .array .int
  | 12 => .array .int
  | 13 => .array .int
  | 14 => .array .long
  | 15 => .array .int
  | 16 => .array .int
  | 17 => .array .int
  | 18 => .array .long
  | 19 => .array .int
  | 20 => .int
  | 21 => .array .int
  | 22 => .int
  | 23 => .array .int
  | 24 => .int
  | 25 => .boolean
  | 26 => .array .int
  | 27 => .int
  | 28 => .array .int
  | 29 => .array .int
  | 30 => .array .long
  | 31 => .array .int
  | 32 => .array .int
  | 33 => .array .int
  | 34 => .int
  | 35 => .int
  | 36 => .array .int
  | 37 => .array .int
  | 38 => .array .int
  | 39 => .array .int
  | 40 => .array .int
  | 41 => .int
  | 42 => .array .int
  | 43 => .int
  | 44 => .int
  | _ => .boolean
theorem nmX12 : ∀ a, a < 46 → ∀ b, b < 46 → a ≠ b → (TX12 a).2.1 ≠ (TX12 b).2.1 := by decide +kernel
theorem tyX12_ok : ∀ k, k < 46 → parseFieldDescriptor (TX12 k).2.2.1 = some (tyX12 k) := by decide +kernel
def RJx4a65c : String := "java/util/ArrayList"
def TJx4a65c : u_T := fun k => match k with
  | 0 => ("java/util/AbstractList", "modCount", "I", false)
  | 1 => ("java/util/ArrayList", "elementData", "[Ljava/lang/Object;", false)
  | _ => ("java/util/ArrayList", "size", "I", false)
def tyJx4a65c : Nat → FieldType := fun k => match k with
  | 0 => .int
  | 1 => .array (.object "java/lang/Object")
  | _ => .int
theorem nmJx4a65c : ∀ a, a < 3 → ∀ b, b < 3 → a ≠ b → (TJx4a65c a).2.1 ≠ (TJx4a65c b).2.1 := by decide +kernel
theorem tyJx4a65c_ok : ∀ k, k < 3 → parseFieldDescriptor (TJx4a65c k).2.2.1 = some (tyJx4a65c k) := by decide +kernel
/-- the classes of objects: kind k is row k - 1 -/
def cl_ : List vw_C := [(RX0, TX0, 6), (RX1, TX1, 7), (RX2, TX2, 7), (RX3, TX3, 5), (RX4, TX4, 3), (RX5, TX5, 2), (RX6, TX6, 2), (RX7, TX7, 3), (RX8, TX8, 5), (RX9, TX9, 2), (RX10, TX10, 7), (RX11, TX11, 13), (RX12, TX12, 46), (RJx4a65c, TJx4a65c, 3)]
def fty_ : Nat → Nat → FieldType := fun k => match k with
  | 1 => tyX0
  | 2 => tyX1
  | 3 => tyX2
  | 4 => tyX3
  | 5 => tyX4
  | 6 => tyX5
  | 7 => tyX6
  | 8 => tyX7
  | 9 => tyX8
  | 10 => tyX9
  | 11 => tyX10
  | 12 => tyX11
  | 13 => tyX12
  | _ => tyJx4a65c
/-- the classes that methods stand in -/
def on_ : List String := ["EventLog$Block", "EventLog$Event", "EventLog$Format", "EventLog$Lines", "EventLog$LogFile", "EventLog$Names", "EventLog$NumberSet", "EventLog$Printer", "EventLog$Query", "EventLog$Row", "EventLog$Unpacker", "EventLog", "EventLogModel", "java/util/ArrayList", "java/util/AbstractList", "java/util/AbstractCollection", "java/util/Arrays", "java/lang/Math", "java/util/Objects", "jdk/internal/util/Preconditions", "jdk/internal/util/ArraysSupport", "EventLogLaw"]
def ow_ (o : Nat) : String := on_.getD o ""
def xn_ : List String := ["java/lang/UnsupportedOperationException", "java/util/NoSuchElementException", "java/lang/IllegalArgumentException", "java/lang/IllegalStateException", "java/lang/IndexOutOfBoundsException"]
/-- methods: class, name, code, locals, answer, depth, handlers -/
abbrev MT_ : Type := Nat × MethodName × ByteArray × Nat × Option FieldType × Nat × List (Nat × Nat × Nat × Nat)
def mt0_ : List MT_ := [(0, ⟨"EventLog$Block", "<init>", "(I)V"⟩, prog_2_method_1_code, 2, none, 10, []), (0, ⟨"EventLog$Block", "append", "(LEventLog$Event;LEventLog$Row;)V"⟩, prog_2_method_9_code, 3, none, 11, []), (0, ⟨"EventLog$Block", "beginBlock", "()V"⟩, prog_2_method_3_code, 1, none, 10, []), (0, ⟨"EventLog$Block", "beginFile", "()V"⟩, prog_2_method_2_code, 1, none, 11, []), (0, ⟨"EventLog$Block", "held", "()I"⟩, prog_2_method_4_code, 1, (some .int), 10, []), (0, ⟨"EventLog$Block", "lastTime", "()J"⟩, prog_2_method_6_code, 1, (some .long), 9, []), (0, ⟨"EventLog$Block", "moveTo", "(LEventLog$LogFile;)V"⟩, prog_2_method_10_code, 2, none, 12, []), (0, ⟨"EventLog$Block", "pack", "(LEventLog$Event;LEventLog$Row;)V"⟩, prog_2_method_7_code, 4, none, 12, []), (0, ⟨"EventLog$Block", "packNumber", "(IILEventLog$Row;)V"⟩, prog_2_method_8_code, 4, none, 11, []), (0, ⟨"EventLog$Block", "room", "()I"⟩, prog_2_method_5_code, 1, (some .int), 10, []), (1, ⟨"EventLog$Event", "<init>", "()V"⟩, prog_3_method_1_code, 1, none, 9, []), (1, ⟨"EventLog$Event", "addNumber", "(I)V"⟩, prog_3_method_6_code, 2, none, 10, []), (1, ⟨"EventLog$Event", "addText", "(LEventLog$Row;II)V"⟩, prog_3_method_7_code, 5, none, 10, []), (1, ⟨"EventLog$Event", "begin", "()V"⟩, prog_3_method_2_code, 1, none, 9, []), (1, ⟨"EventLog$Event", "happens", "(IIJ)V"⟩, prog_3_method_3_code, 5, none, 9, []), (1, ⟨"EventLog$Event", "hasNumber", "(I)Z"⟩, prog_3_method_8_code, 2, (some .boolean), 9, []), (1, ⟨"EventLog$Event", "held", "()I"⟩, prog_3_method_4_code, 1, (some .int), 9, []), (1, ⟨"EventLog$Event", "isBefore", "(LEventLog$Event;)Z"⟩, prog_3_method_14_code, 2, (some .boolean), 9, []), (1, ⟨"EventLog$Event", "isFull", "()Z"⟩, prog_3_method_5_code, 1, (some .boolean), 9, []), (1, ⟨"EventLog$Event", "lastIn", "([III)I"⟩, prog_3_method_15_code, 4, (some .int), 9, [])]
def mt1_ : List MT_ := [(1, ⟨"EventLog$Event", "numberAt", "(I)I"⟩, prog_3_method_9_code, 2, (some .int), 9, []), (1, ⟨"EventLog$Event", "origin", "()I"⟩, prog_3_method_12_code, 1, (some .int), 9, []), (1, ⟨"EventLog$Event", "putText", "(ILEventLog$Row;)V"⟩, prog_3_method_10_code, 4, none, 10, []), (1, ⟨"EventLog$Event", "rememberIn", "([I)V"⟩, prog_3_method_16_code, 4, none, 9, []), (1, ⟨"EventLog$Event", "when", "()J"⟩, prog_3_method_13_code, 1, (some .long), 9, []), (1, ⟨"EventLog$Event", "writer", "()I"⟩, prog_3_method_11_code, 1, (some .int), 9, []), (2, ⟨"EventLog$Format", "<init>", "()V"⟩, prog_4_method_1_code, 1, none, 10, []), (2, ⟨"EventLog$Format", "addPiece", "(I)V"⟩, prog_4_method_9_code, 2, none, 9, []), (2, ⟨"EventLog$Format", "digitAt", "(I)I"⟩, prog_4_method_15_code, 2, (some .int), 9, []), (2, ⟨"EventLog$Format", "faultIn", "(LEventLog$Row;)I"⟩, prog_4_method_2_code, 4, (some .int), 12, []), (2, ⟨"EventLog$Format", "fits", "(LEventLog$Event;)Z"⟩, prog_4_method_17_code, 3, (some .boolean), 11, []), (2, ⟨"EventLog$Format", "isSpelled", "(LEventLog$Row;)Z"⟩, prog_4_method_10_code, 2, (some .boolean), 12, []), (2, ⟨"EventLog$Format", "isTextAt", "(I)Z"⟩, prog_4_method_16_code, 2, (some .boolean), 10, []), (2, ⟨"EventLog$Format", "kindAt", "(I)I"⟩, prog_4_method_14_code, 2, (some .int), 9, []), (2, ⟨"EventLog$Format", "opensOneTooMany", "(LEventLog$Row;I)Z"⟩, prog_4_method_3_code, 3, (some .boolean), 10, []), (2, ⟨"EventLog$Format", "pieceAt", "(I)I"⟩, prog_4_method_12_code, 2, (some .int), 9, []), (2, ⟨"EventLog$Format", "pieceCount", "()I"⟩, prog_4_method_11_code, 1, (some .int), 9, []), (2, ⟨"EventLog$Format", "slots", "()I"⟩, prog_4_method_13_code, 1, (some .int), 9, []), (2, ⟨"EventLog$Format", "takeOutside", "(I)V"⟩, prog_4_method_5_code, 2, none, 10, []), (2, ⟨"EventLog$Format", "takes", "(I)Z"⟩, prog_4_method_4_code, 2, (some .boolean), 11, [])]
def mt2_ : List MT_ := [(2, ⟨"EventLog$Format", "takesBehindOpening", "(I)Z"⟩, prog_4_method_6_code, 3, (some .boolean), 10, []), (2, ⟨"EventLog$Format", "takesClosing", "(I)Z"⟩, prog_4_method_8_code, 2, (some .boolean), 10, []), (2, ⟨"EventLog$Format", "takesDigit", "(I)Z"⟩, prog_4_method_7_code, 3, (some .boolean), 9, []), (3, ⟨"EventLog$Lines", "<init>", "()V"⟩, prog_5_method_1_code, 1, none, 12, []), (3, ⟨"EventLog$Lines", "at", "(I)LEventLog$Event;"⟩, prog_5_method_3_code, 2, (some (.object "EventLog$Event")), 12, []), (3, ⟨"EventLog$Lines", "brokenParts", "()I"⟩, prog_5_method_4_code, 1, (some .int), 9, []), (3, ⟨"EventLog$Lines", "held", "()I"⟩, prog_5_method_2_code, 1, (some .int), 10, []), (3, ⟨"EventLog$Lines", "nextEvent", "()LEventLog$Event;"⟩, prog_5_method_7_code, 1, (some (.object "EventLog$Event")), 16, []), (3, ⟨"EventLog$Lines", "placeOf", "(LEventLog$Event;)I"⟩, prog_5_method_9_code, 5, (some .int), 12, []), (3, ⟨"EventLog$Lines", "read", "(LEventLog$Row;Ljava/util/ArrayList;)V"⟩, prog_5_method_5_code, 5, none, 18, []), (3, ⟨"EventLog$Lines", "readsBlock", "(LEventLog$Row;ILjava/util/ArrayList;)Z"⟩, prog_5_method_6_code, 5, (some .boolean), 17, []), (3, ⟨"EventLog$Lines", "sortIn", "(I)V"⟩, prog_5_method_8_code, 4, none, 15, []), (4, ⟨"EventLog$LogFile", "<init>", "()V"⟩, prog_6_method_1_code, 1, none, 10, []), (4, ⟨"EventLog$LogFile", "append", "(IIJLEventLog$Row;)V"⟩, prog_6_method_9_code, 7, none, 11, []), (4, ⟨"EventLog$LogFile", "begin", "()V"⟩, prog_6_method_2_code, 1, none, 10, []), (4, ⟨"EventLog$LogFile", "cutBehind", "(I)V"⟩, prog_6_method_8_code, 3, none, 10, []), (4, ⟨"EventLog$LogFile", "held", "()I"⟩, prog_6_method_4_code, 1, (some .int), 10, []), (4, ⟨"EventLog$LogFile", "isCut", "()Z"⟩, prog_6_method_5_code, 1, (some .boolean), 9, []), (4, ⟨"EventLog$LogFile", "isFull", "()Z"⟩, prog_6_method_6_code, 1, (some .boolean), 10, []), (4, ⟨"EventLog$LogFile", "makeDurable", "()V"⟩, prog_6_method_7_code, 1, none, 10, [])]
def mt3_ : List MT_ := [(4, ⟨"EventLog$LogFile", "row", "()LEventLog$Row;"⟩, prog_6_method_3_code, 1, (some (.object "EventLog$Row")), 9, []), (5, ⟨"EventLog$Names", "<init>", "()V"⟩, prog_7_method_1_code, 1, none, 9, []), (5, ⟨"EventLog$Names", "give", "(IILEventLog$Row;)V"⟩, prog_7_method_3_code, 6, none, 10, []), (5, ⟨"EventLog$Names", "has", "(II)Z"⟩, prog_7_method_2_code, 2, (some .boolean), 9, []), (5, ⟨"EventLog$Names", "putInto", "(LEventLog$Row;II)Z"⟩, prog_7_method_4_code, 6, (some .boolean), 10, []), (6, ⟨"EventLog$NumberSet", "<init>", "()V"⟩, prog_8_method_1_code, 1, none, 9, []), (6, ⟨"EventLog$NumberSet", "add", "(I)V"⟩, prog_8_method_4_code, 5, none, 9, []), (6, ⟨"EventLog$NumberSet", "begin", "(I)V"⟩, prog_8_method_2_code, 2, none, 10, []), (6, ⟨"EventLog$NumberSet", "held", "()I"⟩, prog_8_method_3_code, 1, (some .int), 9, []), (7, ⟨"EventLog$Printer", "<init>", "()V"⟩, prog_9_method_1_code, 1, none, 10, []), (7, ⟨"EventLog$Printer", "giveName", "(IILEventLog$Row;)V"⟩, prog_9_method_2_code, 4, none, 11, []), (7, ⟨"EventLog$Printer", "print", "(LEventLog$Event;LEventLog$Format;)LEventLog$Row;"⟩, prog_9_method_3_code, 5, (some (.object "EventLog$Row")), 13, []), (7, ⟨"EventLog$Printer", "printDigits", "(JII)V"⟩, prog_9_method_6_code, 9, none, 10, []), (7, ⟨"EventLog$Printer", "printSigned", "(II)V"⟩, prog_9_method_5_code, 3, none, 11, []), (7, ⟨"EventLog$Printer", "printSlot", "(LEventLog$Format;ILEventLog$Event;)V"⟩, prog_9_method_4_code, 5, none, 12, []), (8, ⟨"EventLog$Query", "<init>", "()V"⟩, prog_10_method_1_code, 2, none, 10, []), (8, ⟨"EventLog$Query", "addSearch", "(LEventLog$Row;)V"⟩, prog_10_method_6_code, 2, none, 11, []), (8, ⟨"EventLog$Query", "addTerm", "(III)V"⟩, prog_10_method_5_code, 4, none, 10, []), (8, ⟨"EventLog$Query", "begin", "()V"⟩, prog_10_method_2_code, 1, none, 9, []), (8, ⟨"EventLog$Query", "held", "()I"⟩, prog_10_method_3_code, 1, (some .int), 9, [])]
def mt4_ : List MT_ := [(8, ⟨"EventLog$Query", "holds", "(LEventLog$Event;LEventLog$Format;LEventLog$Printer;)Z"⟩, prog_10_method_7_code, 6, (some .boolean), 14, []), (8, ⟨"EventLog$Query", "holdsUnprinted", "(ILEventLog$Event;)Z"⟩, prog_10_method_8_code, 3, (some .boolean), 10, []), (8, ⟨"EventLog$Query", "isFull", "()Z"⟩, prog_10_method_4_code, 1, (some .boolean), 9, []), (8, ⟨"EventLog$Query", "partsStandIn", "(LEventLog$Row;)Z"⟩, prog_10_method_9_code, 3, (some .boolean), 12, []), (9, ⟨"EventLog$Row", "<init>", "(I)V"⟩, prog_11_method_1_code, 2, none, 9, []), (9, ⟨"EventLog$Row", "at", "(I)I"⟩, prog_11_method_5_code, 2, (some .int), 9, []), (9, ⟨"EventLog$Row", "begin", "()V"⟩, prog_11_method_2_code, 1, none, 9, []), (9, ⟨"EventLog$Row", "bigAt", "(II)J"⟩, prog_11_method_11_code, 6, (some .long), 10, []), (9, ⟨"EventLog$Row", "contains", "(LEventLog$Row;)Z"⟩, prog_11_method_17_code, 3, (some .boolean), 11, []), (9, ⟨"EventLog$Row", "held", "()I"⟩, prog_11_method_3_code, 1, (some .int), 9, []), (9, ⟨"EventLog$Row", "isPrintable", "()Z"⟩, prog_11_method_14_code, 2, (some .boolean), 10, []), (9, ⟨"EventLog$Row", "isSameAs", "(LEventLog$Row;)Z"⟩, prog_11_method_16_code, 2, (some .boolean), 11, []), (9, ⟨"EventLog$Row", "isSign", "(I)Z"⟩, prog_11_method_15_code, 1, (some .boolean), 9, []), (9, ⟨"EventLog$Row", "put", "(I)V"⟩, prog_11_method_7_code, 2, none, 9, []), (9, ⟨"EventLog$Row", "putBig", "(JI)V"⟩, prog_11_method_10_code, 5, none, 10, []), (9, ⟨"EventLog$Row", "putRow", "(LEventLog$Row;)V"⟩, prog_11_method_8_code, 3, none, 10, []), (9, ⟨"EventLog$Row", "putVar", "(J)V"⟩, prog_11_method_12_code, 6, none, 10, []), (9, ⟨"EventLog$Row", "putZeros", "(I)V"⟩, prog_11_method_9_code, 3, none, 10, []), (9, ⟨"EventLog$Row", "room", "()I"⟩, prog_11_method_4_code, 1, (some .int), 9, []), (9, ⟨"EventLog$Row", "set", "(II)V"⟩, prog_11_method_6_code, 3, none, 9, [])]
def mt5_ : List MT_ := [(9, ⟨"EventLog$Row", "shorten", "(I)V"⟩, prog_11_method_13_code, 2, none, 9, []), (9, ⟨"EventLog$Row", "standsAt", "(ILEventLog$Row;)Z"⟩, prog_11_method_18_code, 4, (some .boolean), 10, []), (9, ⟨"EventLog$Row", "sumOfBlock", "(I)I"⟩, prog_11_method_19_code, 4, (some .int), 10, []), (10, ⟨"EventLog$Unpacker", "<init>", "()V"⟩, prog_12_method_1_code, 1, none, 10, []), (10, ⟨"EventLog$Unpacker", "beginsBlock", "(LEventLog$Row;I)Z"⟩, prog_12_method_2_code, 5, (some .boolean), 11, []), (10, ⟨"EventLog$Unpacker", "hasMore", "()Z"⟩, prog_12_method_3_code, 1, (some .boolean), 9, []), (10, ⟨"EventLog$Unpacker", "takeByte", "()I"⟩, prog_12_method_5_code, 2, (some .int), 10, []), (10, ⟨"EventLog$Unpacker", "takeNumber", "(I)I"⟩, prog_12_method_7_code, 4, (some .int), 12, []), (10, ⟨"EventLog$Unpacker", "takeNumberItself", "()I"⟩, prog_12_method_8_code, 3, (some .int), 11, []), (10, ⟨"EventLog$Unpacker", "takeText", "(LEventLog$Event;)V"⟩, prog_12_method_9_code, 3, none, 11, []), (10, ⟨"EventLog$Unpacker", "takeVar", "()J"⟩, prog_12_method_6_code, 5, (some .long), 11, []), (10, ⟨"EventLog$Unpacker", "unpacks", "(LEventLog$Event;Ljava/util/ArrayList;)Z"⟩, prog_12_method_4_code, 7, (some .boolean), 13, []), (11, ⟨"EventLog", "<init>", "()V"⟩, prog_1_method_1_code, 2, none, 13, []), (11, ⟨"EventLog", "about", "(II)I"⟩, prog_1_method_17_code, 4, (some .int), 14, []), (11, ⟨"EventLog", "arg", "(I)I"⟩, prog_1_method_5_code, 2, (some .int), 11, []), (11, ⟨"EventLog", "broken", "()I"⟩, prog_1_method_15_code, 1, (some .int), 10, []), (11, ⟨"EventLog", "byteOf", "(I)I"⟩, prog_1_method_12_code, 2, (some .int), 11, []), (11, ⟨"EventLog", "clear", "()I"⟩, prog_1_method_22_code, 2, (some .int), 10, []), (11, ⟨"EventLog", "count", "()I"⟩, prog_1_method_24_code, 4, (some .int), 15, []), (11, ⟨"EventLog", "crash", "(I)I"⟩, prog_1_method_10_code, 3, (some .int), 11, [])]
def mt6_ : List MT_ := [(11, ⟨"EventLog", "damage", "(II)V"⟩, prog_1_method_13_code, 3, none, 11, []), (11, ⟨"EventLog", "distinct", "(I)I"⟩, prog_1_method_25_code, 4, (some .int), 15, []), (11, ⟨"EventLog", "find", "(I)I"⟩, prog_1_method_23_code, 4, (some .int), 15, []), (11, ⟨"EventLog", "flush", "(I)I"⟩, prog_1_method_8_code, 3, (some .int), 13, []), (11, ⟨"EventLog", "formatOf", "(LEventLog$Event;)LEventLog$Format;"⟩, prog_1_method_28_code, 3, (some (.object "EventLog$Format")), 12, []), (11, ⟨"EventLog", "isWriter", "(I)Z"⟩, prog_1_method_26_code, 1, (some .boolean), 9, []), (11, ⟨"EventLog", "length", "(I)I"⟩, prog_1_method_18_code, 3, (some .int), 14, []), (11, ⟨"EventLog", "letter", "(II)I"⟩, prog_1_method_19_code, 5, (some .int), 14, []), (11, ⟨"EventLog", "lineOf", "(I)LEventLog$Event;"⟩, prog_1_method_27_code, 2, (some (.object "EventLog$Event")), 13, []), (11, ⟨"EventLog", "log", "(IIJ)I"⟩, prog_1_method_7_code, 7, (some .int), 13, []), (11, ⟨"EventLog", "name", "(II)V"⟩, prog_1_method_4_code, 4, none, 12, []), (11, ⟨"EventLog", "open", "()I"⟩, prog_1_method_14_code, 1, (some .int), 19, []), (11, ⟨"EventLog", "rotate", "()V"⟩, prog_1_method_9_code, 2, none, 12, []), (11, ⟨"EventLog", "search", "()I"⟩, prog_1_method_21_code, 2, (some .int), 12, []), (11, ⟨"EventLog", "site", "()I"⟩, prog_1_method_3_code, 4, (some .int), 16, []), (11, ⟨"EventLog", "size", "()I"⟩, prog_1_method_11_code, 1, (some .int), 11, []), (11, ⟨"EventLog", "takeArguments", "()LEventLog$Event;"⟩, prog_1_method_30_code, 2, (some (.object "EventLog$Event")), 10, []), (11, ⟨"EventLog", "takeTyped", "()LEventLog$Row;"⟩, prog_1_method_29_code, 2, (some (.object "EventLog$Row")), 10, []), (11, ⟨"EventLog", "text", "()I"⟩, prog_1_method_6_code, 2, (some .int), 11, []), (11, ⟨"EventLog", "time", "(I)J"⟩, prog_1_method_16_code, 2, (some .long), 14, [])]
def mt7_ : List MT_ := [(11, ⟨"EventLog", "type", "(JI)Z"⟩, prog_1_method_2_code, 5, (some .boolean), 10, []), (11, ⟨"EventLog", "where", "(III)I"⟩, prog_1_method_20_code, 4, (some .int), 11, []), (12, ⟨"EventLogModel", "<init>", "()V"⟩, prog_14_method_1_code, 1, none, 9, []), (12, ⟨"EventLogModel", "about", "(II)I"⟩, prog_14_method_47_code, 4, (some .int), 12, []), (12, ⟨"EventLogModel", "addPending", "(IIJ)V"⟩, prog_14_method_22_code, 8, none, 9, []), (12, ⟨"EventLogModel", "arg", "(I)I"⟩, prog_14_method_15_code, 2, (some .int), 9, []), (12, ⟨"EventLogModel", "broken", "()I"⟩, prog_14_method_44_code, 1, (some .int), 9, []), (12, ⟨"EventLogModel", "byteOf", "(I)I"⟩, prog_14_method_33_code, 2, (some .int), 9, []), (12, ⟨"EventLogModel", "clear", "()I"⟩, prog_14_method_59_code, 2, (some .int), 9, []), (12, ⟨"EventLogModel", "comes", "(IIJ)V"⟩, prog_14_method_25_code, 5, none, 14, []), (12, ⟨"EventLogModel", "count", "()I"⟩, prog_14_method_65_code, 3, (some .int), 18, []), (12, ⟨"EventLogModel", "counts", "(II)Z"⟩, prog_14_method_66_code, 3, (some .boolean), 18, []), (12, ⟨"EventLogModel", "crash", "(I)I"⟩, prog_14_method_31_code, 3, (some .int), 9, []), (12, ⟨"EventLogModel", "damage", "(II)V"⟩, prog_14_method_34_code, 3, none, 9, []), (12, ⟨"EventLogModel", "distinct", "(I)I"⟩, prog_14_method_67_code, 6, (some .int), 19, []), (12, ⟨"EventLogModel", "end", "(I)I"⟩, prog_14_method_6_code, 2, (some .int), 9, []), (12, ⟨"EventLogModel", "find", "(I)I"⟩, prog_14_method_64_code, 3, (some .int), 18, []), (12, ⟨"EventLogModel", "fitArgs", "(I)Z"⟩, prog_14_method_23_code, 4, (some .boolean), 12, []), (12, ⟨"EventLogModel", "flush", "(I)I"⟩, prog_14_method_29_code, 2, (some .int), 14, []), (12, ⟨"EventLogModel", "formatFault", "()I"⟩, prog_14_method_12_code, 4, (some .int), 12, [])]
def mt8_ : List MT_ := [(12, ⟨"EventLogModel", "hasNumber", "(II)Z"⟩, prog_14_method_60_code, 3, (some .boolean), 12, []), (12, ⟨"EventLogModel", "holdAll", "(I)Z"⟩, prog_14_method_63_code, 4, (some .boolean), 17, []), (12, ⟨"EventLogModel", "holds", "(II)Z"⟩, prog_14_method_62_code, 4, (some .boolean), 16, []), (12, ⟨"EventLogModel", "isBefore", "(II)Z"⟩, prog_14_method_42_code, 3, (some .boolean), 9, []), (12, ⟨"EventLogModel", "isIn", "(II)Z"⟩, prog_14_method_61_code, 5, (some .boolean), 15, []), (12, ⟨"EventLogModel", "isLine", "(I)Z"⟩, prog_14_method_45_code, 2, (some .boolean), 9, []), (12, ⟨"EventLogModel", "isRight", "(I)Z"⟩, prog_14_method_10_code, 2, (some .boolean), 10, []), (12, ⟨"EventLogModel", "isTextSlot", "(II)Z"⟩, prog_14_method_8_code, 4, (some .boolean), 11, []), (12, ⟨"EventLogModel", "lastNumber", "(III)I"⟩, prog_14_method_38_code, 5, (some .int), 9, []), (12, ⟨"EventLogModel", "length", "(I)I"⟩, prog_14_method_55_code, 2, (some .int), 15, []), (12, ⟨"EventLogModel", "letter", "(II)I"⟩, prog_14_method_56_code, 4, (some .int), 16, []), (12, ⟨"EventLogModel", "log", "(IIJ)I"⟩, prog_14_method_24_code, 6, (some .int), 15, []), (12, ⟨"EventLogModel", "name", "(II)V"⟩, prog_14_method_14_code, 7, none, 10, []), (12, ⟨"EventLogModel", "next", "()I"⟩, prog_14_method_35_code, 1, (some .int), 9, []), (12, ⟨"EventLogModel", "number", "(II)J"⟩, prog_14_method_37_code, 6, (some .long), 9, []), (12, ⟨"EventLogModel", "numberBefore", "(III)I"⟩, prog_14_method_19_code, 6, (some .int), 9, []), (12, ⟨"EventLogModel", "open", "()I"⟩, prog_14_method_43_code, 3, (some .int), 15, []), (12, ⟨"EventLogModel", "pack", "(I)V"⟩, prog_14_method_17_code, 2, none, 9, []), (12, ⟨"EventLogModel", "packAll", "(I)V"⟩, prog_14_method_21_code, 6, none, 12, []), (12, ⟨"EventLogModel", "packSlot", "(III)V"⟩, prog_14_method_20_code, 8, none, 10, [])]
def mt9_ : List MT_ := [(12, ⟨"EventLogModel", "packVar", "(J)V"⟩, prog_14_method_18_code, 5, none, 10, []), (12, ⟨"EventLogModel", "print", "(I)V"⟩, prog_14_method_48_code, 2, none, 9, []), (12, ⟨"EventLogModel", "printDigits", "(JII)V"⟩, prog_14_method_49_code, 8, none, 10, []), (12, ⟨"EventLogModel", "printEvent", "(I)V"⟩, prog_14_method_54_code, 6, none, 14, []), (12, ⟨"EventLogModel", "printHex", "(I)V"⟩, prog_14_method_51_code, 7, none, 10, []), (12, ⟨"EventLogModel", "printNamed", "(II)V"⟩, prog_14_method_52_code, 5, none, 12, []), (12, ⟨"EventLogModel", "printSigned", "(III)V"⟩, prog_14_method_50_code, 6, none, 11, []), (12, ⟨"EventLogModel", "printSlot", "(II)V"⟩, prog_14_method_53_code, 6, none, 13, []), (12, ⟨"EventLogModel", "put", "(I)V"⟩, prog_14_method_26_code, 2, none, 9, []), (12, ⟨"EventLogModel", "readBlock", "(I)Z"⟩, prog_14_method_41_code, 5, (some .boolean), 14, []), (12, ⟨"EventLogModel", "readEvents", "(IJ)Z"⟩, prog_14_method_40_code, 11, (some .boolean), 13, []), (12, ⟨"EventLogModel", "readSlot", "(III)V"⟩, prog_14_method_39_code, 7, none, 12, []), (12, ⟨"EventLogModel", "readVar", "()J"⟩, prog_14_method_36_code, 7, (some .long), 10, []), (12, ⟨"EventLogModel", "rotate", "()V"⟩, prog_14_method_30_code, 2, none, 9, []), (12, ⟨"EventLogModel", "search", "()I"⟩, prog_14_method_58_code, 3, (some .int), 10, []), (12, ⟨"EventLogModel", "site", "()I"⟩, prog_14_method_13_code, 6, (some .int), 13, []), (12, ⟨"EventLogModel", "size", "()I"⟩, prog_14_method_32_code, 1, (some .int), 9, []), (12, ⟨"EventLogModel", "slotAt", "(II)I"⟩, prog_14_method_7_code, 6, (some .int), 10, []), (12, ⟨"EventLogModel", "slotCount", "(I)I"⟩, prog_14_method_9_code, 3, (some .int), 11, []), (12, ⟨"EventLogModel", "slotFault", "(I)I"⟩, prog_14_method_11_code, 5, (some .int), 11, [])]
def mt10_ : List MT_ := [(12, ⟨"EventLogModel", "slotSize", "([III)I"⟩, prog_14_method_5_code, 3, (some .int), 9, []), (12, ⟨"EventLogModel", "sum", "([II)I"⟩, prog_14_method_27_code, 4, (some .int), 9, []), (12, ⟨"EventLogModel", "text", "()I"⟩, prog_14_method_16_code, 3, (some .int), 9, []), (12, ⟨"EventLogModel", "thrown", "()I"⟩, prog_14_method_2_code, 1, (some .int), 9, []), (12, ⟨"EventLogModel", "time", "(I)J"⟩, prog_14_method_46_code, 2, (some .long), 10, []), (12, ⟨"EventLogModel", "type", "(JI)Z"⟩, prog_14_method_4_code, 5, (some .boolean), 10, []), (12, ⟨"EventLogModel", "where", "(III)I"⟩, prog_14_method_57_code, 4, (some .int), 10, []), (12, ⟨"EventLogModel", "within", "(III)Z"⟩, prog_14_method_3_code, 3, (some .boolean), 9, []), (12, ⟨"EventLogModel", "write", "(I)V"⟩, prog_14_method_28_code, 7, none, 13, []), (13, ⟨"java/util/ArrayList", "<init>", "()V"⟩, prog_41_method_2_code, 1, none, 11, []), (13, ⟨"java/util/ArrayList", "add", "(ILjava/lang/Object;)V"⟩, prog_41_method_26_code, 5, none, 14, []), (13, ⟨"java/util/ArrayList", "add", "(Ljava/lang/Object;)Z"⟩, prog_41_method_25_code, 2, (some .boolean), 15, []), (13, ⟨"java/util/ArrayList", "add", "(Ljava/lang/Object;[Ljava/lang/Object;I)V"⟩, prog_41_method_24_code, 4, none, 14, []), (13, ⟨"java/util/ArrayList", "clear", "()V"⟩, prog_41_method_40_code, 4, none, 9, []), (13, ⟨"java/util/ArrayList", "elementData", "(I)Ljava/lang/Object;"⟩, prog_41_method_18_code, 2, (some (.object "java/lang/Object")), 9, []), (13, ⟨"java/util/ArrayList", "get", "(I)Ljava/lang/Object;"⟩, prog_41_method_20_code, 2, (some (.object "java/lang/Object")), 11, []), (13, ⟨"java/util/ArrayList", "grow", "()[Ljava/lang/Object;"⟩, prog_41_method_7_code, 1, (some (.array (.object "java/lang/Object"))), 13, []), (13, ⟨"java/util/ArrayList", "grow", "(I)[Ljava/lang/Object;"⟩, prog_41_method_6_code, 4, (some (.array (.object "java/lang/Object"))), 12, []), (13, ⟨"java/util/ArrayList", "rangeCheckForAdd", "(I)V"⟩, prog_41_method_45_code, 2, none, 9, []), (13, ⟨"java/util/ArrayList", "size", "()I"⟩, prog_41_method_8_code, 1, (some .int), 9, [])]
def mt11_ : List MT_ := [(14, ⟨"java/util/AbstractList", "<init>", "()V"⟩, prog_40_method_1_code, 1, none, 10, []), (15, ⟨"java/util/AbstractCollection", "<init>", "()V"⟩, prog_39_method_1_code, 1, none, 9, []), (16, ⟨"java/util/Arrays", "copyOf", "([Ljava/lang/Object;I)[Ljava/lang/Object;"⟩, prog_42_method_119_code, 2, (some (.array (.object "java/lang/Object"))), 11, []), (16, ⟨"java/util/Arrays", "copyOf", "([Ljava/lang/Object;ILjava/lang/Class;)[Ljava/lang/Object;"⟩, prog_42_method_120_code, 4, (some (.array (.object "java/lang/Object"))), 10, []), (16, ⟨"java/util/Arrays", "fill", "([II)V"⟩, prog_42_method_103_code, 4, none, 9, []), (17, ⟨"java/lang/Math", "abs", "(J)J"⟩, prog_27_method_61_code, 2, (some .long), 9, []), (17, ⟨"java/lang/Math", "max", "(II)I"⟩, prog_27_method_65_code, 2, (some .int), 9, []), (17, ⟨"java/lang/Math", "min", "(II)I"⟩, prog_27_method_69_code, 2, (some .int), 9, []), (18, ⟨"java/util/Objects", "checkIndex", "(II)I"⟩, prog_46_method_17_code, 2, (some .int), 10, []), (19, ⟨"jdk/internal/util/Preconditions", "checkIndex", "(IILjava/util/function/BiFunction;)I"⟩, prog_50_method_11_code, 3, (some .int), 9, []), (20, ⟨"jdk/internal/util/ArraysSupport", "newLength", "(III)I"⟩, prog_49_method_27_code, 4, (some .int), 10, []), (21, ⟨"EventLogLaw", "about", "(LEventLog;II[J)I"⟩, method_13_code, 5, (some .int), 15, [(0, 10, 13, 19), (0, 10, 17, 45)]), (21, ⟨"EventLogLaw", "arg", "(LEventLog;I[J)I"⟩, method_5_code, 4, (some .int), 12, [(0, 9, 12, 13)]), (21, ⟨"EventLogLaw", "byteOf", "(LEventLog;I[J)I"⟩, method_10_code, 4, (some .int), 12, [(0, 9, 12, 45)]), (21, ⟨"EventLogLaw", "crash", "(LEventLog;I[J)I"⟩, method_9_code, 4, (some .int), 12, [(0, 9, 12, 21), (0, 9, 15, 34)]), (21, ⟨"EventLogLaw", "damage", "(LEventLog;II)I"⟩, method_11_code, 4, (some .int), 12, [(0, 6, 9, 45)]), (21, ⟨"EventLogLaw", "distinct", "(LEventLog;I[J)I"⟩, method_18_code, 4, (some .int), 16, [(0, 9, 12, 45)]), (21, ⟨"EventLogLaw", "flush", "(LEventLog;I[J)I"⟩, method_8_code, 4, (some .int), 14, [(0, 9, 12, 19), (0, 9, 15, 34), (0, 9, 18, 13)]), (21, ⟨"EventLogLaw", "law", "([I)Z"⟩, code, 8, (some .boolean), 20, []), (21, ⟨"EventLogLaw", "length", "(LEventLog;I[J)I"⟩, method_14_code, 4, (some .int), 15, [(0, 9, 12, 19)])]
def mt12_ : List MT_ := [(21, ⟨"EventLogLaw", "letter", "(LEventLog;II[J)I"⟩, method_15_code, 5, (some .int), 15, [(0, 10, 13, 19), (0, 10, 17, 45)]), (21, ⟨"EventLogLaw", "log", "(LEventLog;IIJ[J)I"⟩, method_7_code, 7, (some .int), 14, [(0, 12, 15, 19), (0, 12, 19, 34), (0, 12, 23, 21), (0, 12, 27, 13)]), (21, ⟨"EventLogLaw", "name", "(LEventLog;II)I"⟩, method_4_code, 4, (some .int), 13, [(0, 6, 9, 19), (0, 6, 12, 21)]), (21, ⟨"EventLogLaw", "search", "(LEventLog;[J)I"⟩, method_17_code, 3, (some .int), 13, [(0, 8, 11, 21), (0, 8, 14, 13)]), (21, ⟨"EventLogLaw", "site", "(LEventLog;[J)I"⟩, method_3_code, 3, (some .int), 17, [(0, 8, 11, 13)]), (21, ⟨"EventLogLaw", "text", "(LEventLog;[J)I"⟩, method_6_code, 3, (some .int), 12, [(0, 8, 11, 21), (0, 8, 14, 13)]), (21, ⟨"EventLogLaw", "time", "(LEventLog;I[J)I"⟩, method_12_code, 4, (some .int), 15, [(0, 8, 11, 19)]), (21, ⟨"EventLogLaw", "where", "(LEventLog;III[J)I"⟩, method_16_code, 6, (some .int), 12, [(0, 12, 15, 21), (0, 12, 19, 13)])]
def mts_ : List MT_ := mt0_ ++ (mt1_ ++ (mt2_ ++ (mt3_ ++ (mt4_ ++ (mt5_ ++ (mt6_ ++ (mt7_ ++ (mt8_ ++ (mt9_ ++ (mt10_ ++ (mt11_ ++ (mt12_))))))))))))
def md_ (k : Nat) : MT_ := mts_.getD k (0, ⟨"", "", ""⟩, ⟨#[]⟩, 0, none, 0, [])
def mo_ (k : Nat) : Nat := (md_ k).1
def my_ (k : Nat) : MethodName := (md_ k).2.1
def mc_ (k : Nat) : ByteArray := (md_ k).2.2.1
def ml_ (k : Nat) : Nat := (md_ k).2.2.2.1
def mr_ (k : Nat) : Option FieldType := (md_ k).2.2.2.2.1
def mp_ (k : Nat) : Nat := (md_ k).2.2.2.2.2.1
def mh_ (k : Nat) : List (Nat × Nat × Nat × Nat) := (md_ k).2.2.2.2.2.2
def lk_ {α : Type} (t : List (Nat × Nat × α)) (o i : Nat) : Option α := (t.find? (fun q => q.1 == o && q.2.1 == i)).map (fun q => q.2.2)
theorem lk_mem {α : Type} {t : List (Nat × Nat × α)} {o i : Nat} {e : α} (h : lk_ t o i = some e) : (o, i, e) ∈ t := by
  unfold lk_ at h
  cases hf : t.find? (fun q => q.1 == o && q.2.1 == i) with
  | none => rw [hf] at h; cases h
  | some q =>
    rw [hf] at h
    have h1 := List.find?_some hf
    have h2 := List.mem_of_find?_eq_some hf
    simp only [Bool.and_eq_true, beq_iff_eq] at h1
    obtain ⟨q1, q2, q3⟩ := q
    simp only [Option.map_some, Option.some.injEq] at h
    simp only at h1
    obtain ⟨rfl, rfl⟩ := h1
    subst h
    exact h2
/-- fields: class and entry; kind, field, type (int, boolean, long, reference) -/
def fT_ : List (Nat × Nat × Nat × Nat × Nat) := [(0, 14, 1, 1, 3), (0, 20, 1, 2, 3), (0, 24, 1, 0, 0), (0, 95, 1, 4, 2), (0, 31, 1, 5, 2), (0, 28, 1, 3, 0), (1, 9, 2, 0, 3), (1, 15, 2, 1, 3), (1, 19, 2, 2, 3), (1, 23, 2, 3, 0), (1, 27, 2, 4, 0), (1, 30, 2, 5, 0), (1, 33, 2, 6, 2), (2, 14, 3, 0, 3), (2, 20, 3, 1, 3), (2, 24, 3, 2, 3), (2, 27, 3, 3, 3), (2, 33, 3, 4, 0), (2, 37, 3, 5, 0), (2, 40, 3, 6, 0), (3, 12, 4, 0, 3), (3, 18, 4, 1, 3), (3, 24, 4, 2, 3), (3, 38, 4, 4, 0), (3, 45, 4, 3, 0), (4, 14, 5, 0, 3), (4, 23, 5, 1, 0), (4, 27, 5, 2, 1), (5, 9, 6, 0, 3), (5, 15, 6, 1, 3), (6, 7, 7, 0, 3), (6, 13, 7, 1, 0), (7, 12, 8, 0, 3), (7, 23, 8, 1, 3), (7, 27, 8, 2, 3), (8, 9, 9, 0, 3), (8, 15, 9, 1, 3), (8, 18, 9, 2, 3), (8, 23, 9, 3, 3), (8, 30, 9, 4, 0), (9, 9, 10, 0, 3), (9, 15, 10, 1, 0), (10, 9, 11, 0, 3), (10, 20, 11, 1, 3), (10, 32, 11, 4, 0), (10, 36, 11, 5, 2), (10, 40, 11, 2, 0), (10, 43, 11, 3, 0), (10, 59, 11, 6, 1), (11, 14, 12, 0, 3), (11, 18, 12, 1, 3), (11, 24, 12, 2, 3), (11, 28, 12, 3, 3), (11, 34, 12, 4, 3), (11, 41, 12, 5, 3), (11, 47, 12, 6, 3), (11, 51, 12, 7, 3), (11, 57, 12, 8, 3), (11, 64, 12, 9, 3), (11, 71, 12, 10, 3), (11, 78, 12, 11, 3), (11, 85, 12, 12, 3), (12, 7, 13, 2, 3), (12, 13, 13, 4, 3), (12, 16, 13, 5, 3), (12, 19, 13, 6, 3), (12, 22, 13, 7, 3), (12, 25, 13, 9, 3), (12, 28, 13, 10, 3), (12, 31, 13, 11, 3), (12, 34, 13, 12, 3), (12, 37, 13, 13, 3), (12, 40, 13, 14, 3), (12, 44, 13, 15, 3), (12, 47, 13, 16, 3), (12, 51, 13, 17, 3), (12, 54, 13, 18, 3), (12, 57, 13, 19, 3), (12, 60, 13, 21, 3), (12, 63, 13, 23, 3), (12, 66, 13, 26, 3), (12, 69, 13, 28, 3), (12, 72, 13, 29, 3), (12, 75, 13, 30, 3), (12, 78, 13, 31, 3), (12, 81, 13, 32, 3), (12, 84, 13, 33, 3), (12, 87, 13, 36, 3), (12, 90, 13, 37, 3), (12, 93, 13, 38, 3), (12, 96, 13, 39, 3), (12, 99, 13, 40, 3), (12, 102, 13, 42, 3), (12, 105, 13, 0, 0), (12, 144, 13, 8, 0), (12, 245, 13, 34, 0), (12, 194, 13, 22, 0), (12, 298, 13, 35, 0), (12, 147, 13, 20, 0), (12, 224, 13, 27, 0), (12, 177, 13, 25, 1), (12, 207, 13, 24, 0), (12, 113, 13, 1, 0), (12, 257, 13, 41, 0), (12, 141, 13, 3, 0), (12, 210, 13, 45, 1), (12, 213, 13, 43, 0), (12, 216, 13, 44, 0), (13, 9, 14, 1, 3), (13, 63, 14, 0, 0), (13, 48, 14, 2, 0), (14, 7, 14, 0, 0)]
/-- calls: class and entry; how (0 virtual, 1 special, 2 static, 3 static with handlers, 4 special in the nest, 5 static in the nest, 6 Object's constructor, 7 arraycopy, 9 getClass), whom -/
def lT_ : List (Nat × Nat × Nat × Nat) := [(0, 3, 6, 0), (0, 11, 1, 84), (0, 47, 0, 89), (0, 63, 0, 24), (0, 98, 0, 23), (0, 102, 0, 95), (0, 38, 0, 86), (0, 41, 2, 224), (0, 35, 0, 2), (0, 106, 0, 53), (0, 54, 0, 21), (0, 59, 0, 96), (0, 67, 0, 16), (0, 68, 0, 15), (0, 72, 0, 20), (0, 76, 2, 19), (0, 80, 2, 8), (0, 84, 0, 93), (0, 87, 0, 22), (0, 91, 0, 94), (0, 51, 0, 98), (1, 3, 6, 0), (1, 37, 0, 18), (1, 41, 2, 227), (1, 47, 0, 85), (1, 53, 0, 93), (2, 3, 6, 0), (2, 11, 1, 84), (2, 30, 0, 86), (2, 43, 0, 89), (2, 47, 0, 85), (2, 51, 2, 92), (2, 55, 0, 34), (2, 59, 0, 39), (2, 62, 0, 93), (2, 87, 0, 16), (2, 90, 0, 15), (2, 93, 0, 32), (2, 80, 0, 91), (2, 84, 0, 33), (2, 74, 0, 27), (2, 65, 0, 40), (2, 68, 0, 42), (2, 71, 0, 41), (2, 77, 0, 38), (3, 3, 6, 0), (3, 11, 1, 209), (3, 23, 4, 103), (3, 32, 0, 215), (3, 28, 0, 219), (3, 77, 4, 10), (3, 78, 0, 211), (3, 89, 0, 17), (3, 42, 0, 213), (3, 48, 0, 89), (3, 53, 0, 50), (3, 57, 0, 51), (3, 61, 0, 104), (3, 65, 0, 105), (3, 69, 0, 47), (3, 73, 0, 111), (3, 82, 0, 48), (3, 86, 0, 210), (4, 3, 6, 0), (4, 11, 1, 84), (4, 31, 0, 89), (4, 47, 0, 93), (4, 50, 0, 94), (4, 54, 0, 95), (4, 35, 0, 98), (4, 58, 0, 97), (4, 61, 0, 102), (4, 20, 0, 86), (4, 38, 2, 227), (4, 44, 0, 100), (5, 3, 6, 0), (5, 19, 2, 63), (5, 23, 0, 89), (5, 29, 2, 227), (5, 35, 0, 85), (5, 39, 0, 93), (6, 1, 6, 0), (6, 23, 7, 0), (6, 17, 2, 226), (7, 3, 6, 0), (7, 11, 4, 61), (7, 20, 1, 84), (7, 31, 0, 62), (7, 35, 0, 86), (7, 38, 0, 36), (7, 44, 0, 35), (7, 48, 0, 93), (7, 51, 0, 74), (7, 84, 2, 225), (7, 65, 0, 72), (7, 55, 0, 20), (7, 60, 0, 33), (7, 69, 0, 28), (7, 72, 0, 64), (7, 76, 0, 73), (7, 80, 0, 22), (8, 3, 6, 0), (8, 27, 1, 84), (8, 34, 0, 82), (8, 38, 0, 86), (8, 41, 0, 95), (8, 45, 0, 77), (8, 49, 0, 81), (8, 53, 0, 71), (8, 59, 0, 83), (8, 63, 0, 21), (8, 69, 0, 25), (8, 72, 0, 15), (8, 76, 0, 20), (8, 80, 0, 88), (9, 3, 6, 0), (9, 23, 0, 85), (9, 33, 0, 101), (9, 29, 2, 92), (9, 19, 0, 93), (10, 3, 6, 0), (10, 17, 1, 84), (10, 24, 0, 87), (10, 28, 0, 85), (10, 46, 0, 89), (10, 50, 5, 125), (10, 56, 0, 102), (10, 63, 2, 224), (10, 117, 0, 106), (10, 120, 0, 108), (10, 123, 0, 12), (10, 69, 0, 13), (10, 74, 0, 110), (10, 78, 0, 219), (10, 83, 0, 14), (10, 87, 0, 215), (10, 93, 0, 37), (10, 96, 0, 32), (10, 99, 0, 109), (10, 103, 2, 19), (10, 107, 0, 107), (10, 110, 0, 11), (10, 113, 0, 23), (11, 1, 6, 0), (11, 11, 1, 84), (11, 23, 4, 10), (11, 33, 4, 26), (11, 40, 1, 209), (11, 56, 4, 52), (11, 63, 4, 43), (11, 70, 4, 69), (11, 77, 1, 75), (11, 84, 4, 65), (11, 89, 1, 0), (11, 235, 0, 128), (11, 242, 0, 25), (11, 245, 0, 21), (11, 152, 0, 16), (11, 248, 0, 20), (11, 146, 0, 18), (11, 149, 0, 11), (11, 232, 0, 45), (11, 200, 0, 56), (11, 216, 0, 60), (11, 219, 0, 85), (11, 264, 0, 79), (11, 269, 0, 78), (11, 231, 0, 46), (11, 276, 0, 44), (11, 251, 0, 124), (11, 278, 0, 80), (11, 165, 0, 57), (11, 207, 0, 2), (11, 210, 0, 55), (11, 223, 0, 99), (11, 282, 0, 67), (11, 284, 0, 15), (11, 287, 0, 66), (11, 289, 0, 68), (11, 270, 2, 226), (11, 161, 2, 125), (11, 196, 0, 4), (11, 188, 0, 58), (11, 189, 0, 6), (11, 197, 0, 59), (11, 105, 0, 219), (11, 108, 0, 215), (11, 255, 0, 71), (11, 132, 0, 89), (11, 157, 0, 136), (11, 171, 0, 30), (11, 175, 0, 5), (11, 179, 0, 14), (11, 183, 0, 7), (11, 187, 0, 9), (11, 193, 0, 1), (11, 97, 0, 137), (11, 123, 2, 63), (11, 135, 0, 90), (11, 142, 0, 70), (11, 227, 0, 49), (11, 201, 0, 54), (11, 204, 0, 3), (11, 259, 0, 82), (11, 265, 0, 76), (11, 101, 0, 29), (11, 112, 0, 31), (11, 119, 0, 211), (11, 291, 0, 13), (11, 290, 0, 86), (11, 153, 0, 12), (11, 239, 0, 24), (11, 90, 0, 98), (11, 94, 0, 93), (11, 260, 0, 77), (12, 1, 6, 0), (12, 254, 0, 165), (12, 109, 2, 207), (12, 166, 0, 198), (12, 188, 0, 144), (12, 191, 0, 178), (12, 197, 0, 208), (12, 310, 0, 161), (12, 301, 0, 160), (12, 313, 0, 151), (12, 173, 0, 167), (12, 130, 0, 166), (12, 134, 0, 199), (12, 122, 2, 200), (12, 307, 0, 162), (12, 304, 0, 164), (12, 292, 0, 183), (12, 126, 0, 197), (12, 295, 0, 169), (12, 181, 0, 157), (12, 184, 0, 149), (12, 248, 0, 189), (12, 251, 0, 163), (12, 162, 0, 180), (12, 169, 0, 179), (12, 154, 0, 177), (12, 158, 0, 175), (12, 264, 0, 181), (12, 118, 0, 155), (12, 289, 0, 187), (12, 279, 0, 186), (12, 269, 0, 182), (12, 282, 0, 184), (12, 285, 0, 185), (12, 230, 0, 174), (12, 203, 2, 201), (12, 241, 0, 190), (12, 234, 0, 192), (12, 238, 0, 191), (12, 219, 0, 173), (12, 227, 0, 168), (12, 137, 0, 159), (12, 200, 0, 188), (13, 1, 1, 220), (13, 135, 0, 218), (13, 129, 0, 216), (13, 112, 7, 0), (13, 131, 0, 212), (13, 118, 2, 228), (13, 123, 0, 214), (13, 69, 0, 217), (13, 73, 2, 230), (13, 66, 2, 222), (13, 79, 2, 226), (14, 1, 1, 221), (15, 1, 6, 0), (16, 86, 9, 0), (16, 300, 2, 223), (16, 304, 2, 227), (16, 150, 7, 0), (18, 105, 2, 229), (20, 194, 2, 226), (21, 54, 0, 113), (21, 23, 0, 114), (21, 42, 0, 116), (21, 39, 0, 119), (21, 47, 0, 120), (21, 71, 0, 121), (21, 36, 0, 123), (21, 74, 1, 112), (21, 77, 1, 142), (21, 80, 0, 140), (21, 84, 0, 205), (21, 85, 3, 244), (21, 90, 0, 195), (21, 91, 0, 203), (21, 94, 3, 242), (21, 97, 0, 172), (21, 98, 3, 232), (21, 101, 0, 145), (21, 102, 3, 245), (21, 104, 0, 202), (21, 105, 3, 241), (21, 108, 0, 171), (21, 109, 3, 237), (21, 111, 0, 158), (21, 112, 0, 132), (21, 115, 0, 193), (21, 116, 3, 234), (21, 118, 0, 152), (21, 119, 0, 135), (21, 122, 0, 196), (21, 123, 3, 233), (21, 125, 0, 147), (21, 126, 3, 235), (21, 128, 0, 153), (21, 129, 0, 131), (21, 132, 0, 176), (21, 133, 0, 115), (21, 136, 0, 146), (21, 137, 3, 246), (21, 139, 0, 204), (21, 140, 3, 231), (21, 143, 0, 143), (21, 144, 3, 239), (21, 146, 0, 169), (21, 147, 3, 240), (21, 149, 0, 170), (21, 150, 3, 247), (21, 153, 0, 206), (21, 154, 3, 243), (21, 156, 0, 194), (21, 157, 0, 117), (21, 160, 0, 148), (21, 161, 0, 122), (21, 164, 0, 156), (21, 165, 0, 118), (21, 168, 0, 150), (21, 169, 3, 236), (21, 171, 0, 154), (21, 58, 0, 126), (21, 61, 0, 127), (21, 30, 0, 129), (21, 15, 0, 130), (21, 68, 0, 133), (21, 7, 0, 134), (21, 27, 0, 138), (21, 50, 0, 139), (21, 64, 0, 141)]
def cT_ : List (Nat × Nat × Nat) := [(0, 9, 10), (2, 9, 10), (3, 9, 14), (3, 21, 11), (3, 36, 2), (4, 9, 10), (7, 9, 6), (7, 18, 10), (8, 21, 10), (10, 15, 10), (10, 91, 3), (11, 7, 10), (11, 21, 2), (11, 31, 3), (11, 38, 14), (11, 54, 5), (11, 61, 4), (11, 68, 8), (11, 75, 9), (11, 82, 7), (11, 45, 1), (11, 213, 24), (11, 129, 21), (11, 116, 20), (11, 139, 22), (11, 168, 23), (13, 187, 24), (21, 19, 21), (21, 45, 24), (21, 13, 20), (21, 21, 22), (21, 34, 23), (21, 8, 12), (21, 75, 13)]
def aT_ : List (Nat × Nat × Nat) := [(8, 21, 36), (11, 45, 35), (13, 7, 34), (16, 2, 34)]
def xT_ : List (Nat × Nat × Nat) := [(11, 215, 24), (11, 131, 21), (11, 118, 20), (11, 141, 22), (11, 170, 23)]
def kI_ : List (Nat × Nat × Int32) := [(12, 50, 46080), (20, 200, 2147483639)]
def kJ_ : List (Nat × Nat × Int64) := [(7, 63, 4294967295), (9, 27, 127), (10, 54, 238), (12, 222, 256), (12, 150, 127), (12, 152, 128), (12, 260, 9), (12, 262, 10), (12, 267, 48), (12, 273, 4294967295), (12, 275, 15), (12, 277, 16), (12, 116, 255), (21, 78, 4294967295)]
/-- how many arguments (with the receiver), and whether static -/
def npL_ : List (Nat × Bool) := [(2, false), (3, false), (1, false), (1, false), (1, false), (1, false), (2, false), (3, false), (3, true), (1, false), (1, false), (2, false), (4, false), (1, false), (4, false), (2, false), (1, false), (2, false), (1, false), (3, true), (2, false), (1, false), (3, false), (2, false), (1, false), (1, false), (1, false), (2, false), (2, false), (2, false), (2, false), (2, false), (2, false), (2, false), (3, false), (2, false), (1, false), (1, false), (2, false), (2, false), (2, false), (2, false), (2, false), (1, false), (2, false), (1, false), (1, false), (1, false), (2, false), (3, false), (4, false), (2, false), (1, false), (5, false), (1, false), (2, false), (1, false), (1, false), (1, false), (1, false), (1, false), (1, false), (4, false), (2, true), (4, false), (1, false), (2, false), (2, false), (1, false), (1, false), (4, false), (3, false), (4, false), (3, false), (4, false), (1, false), (2, false), (4, false), (1, false), (1, false), (4, false), (3, false), (1, false), (2, false), (2, false), (2, false), (1, false), (3, false), (2, false), (1, false), (1, false), (2, false), (1, true), (2, false), (3, false), (2, false), (2, false), (2, false), (1, false), (3, false), (2, false), (3, false), (2, false), (1, false), (3, false), (1, false), (1, false), (2, false), (1, false), (2, false), (1, false), (3, false), (1, false), (3, false), (2, false), (1, false), (2, false), (1, false), (1, false), (2, false), (3, false), (2, false), (2, false), (2, false), (2, false), (1, true), (2, false), (3, false), (2, false), (4, false), (3, false), (1, false), (1, false), (1, false), (1, false), (1, false), (1, false), (1, false), (1, false), (2, false), (3, false), (4, false), (1, false), (3, false), (4, false), (2, false), (1, false), (2, false), (1, false), (4, false), (1, false), (3, false), (2, false), (3, false), (2, false), (2, false), (2, false), (2, false), (2, false), (1, false), (3, false), (2, false), (3, false), (3, false), (3, false), (2, false), (2, false), (3, false), (4, false), (2, false), (3, false), (4, false), (3, false), (1, false), (3, false), (4, false), (1, false), (2, false), (2, false), (4, false), (2, false), (2, false), (4, false), (2, false), (2, false), (3, false), (4, false), (3, false), (2, false), (2, false), (3, false), (4, false), (1, false), (1, false), (1, false), (1, false), (1, false), (3, false), (2, false), (2, false), (3, true), (2, true), (1, false), (1, false), (2, false), (3, false), (4, false), (3, true), (2, false), (1, false), (3, false), (2, false), (4, false), (1, false), (2, false), (2, false), (1, false), (2, false), (2, false), (1, false), (1, false), (1, false), (2, true), (3, true), (2, true), (1, true), (2, true), (2, true), (2, true), (3, true), (3, true), (4, true), (3, true), (3, true), (3, true), (3, true), (3, true), (3, true), (1, true), (3, true), (4, true), (5, true), (3, true), (2, true), (2, true), (2, true), (3, true), (5, true)]
def np_ (k : Nat) : Nat := (npL_.getD k (0, false)).1
def ns_ (k : Nat) : Bool := (npL_.getD k (0, false)).2
