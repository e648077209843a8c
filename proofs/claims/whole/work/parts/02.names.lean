def RX1 : String := "CellarMeter$House"
def TX1 : u_T := fun k => match k with
  | 0 => ("CellarMeter$House", "takes", "[I", true)
  | 1 => ("CellarMeter$House", "glads", "[I", true)
  | 2 => ("CellarMeter$House", "steps", "[I", true)
  | 3 => ("CellarMeter$House", "stepCount", "I", false)
  | 4 => ("CellarMeter$House", "named", "I", false)
  | _ => ("CellarMeter$House", "give", "I", false)
def tyX1 : Nat → FieldType := fun k => match k with
  | 0 => .array .int
  | 1 => .array .int
  | 2 => .array .int
  | 3 => .int
  | 4 => .int
  | _ => .int
theorem nmX1 : ∀ a, a < 6 → ∀ b, b < 6 → a ≠ b → (TX1 a).2.1 ≠ (TX1 b).2.1 := by decide +kernel
theorem tyX1_ok : ∀ k, k < 6 → parseFieldDescriptor (TX1 k).2.2.1 = some (tyX1 k) := by decide +kernel
def RX2 : String := "CellarMeter$HouseReader"
def TX2 : u_T := fun k => match k with
  | 0 => ("CellarMeter$HouseReader", "text", "LCellarMeter$Text;", true)
  | 1 => ("CellarMeter$HouseReader", "house", "LCellarMeter$House;", false)
  | 2 => ("CellarMeter$HouseReader", "place", "I", false)
  | _ => ("CellarMeter$HouseReader", "right", "Z", false)
def tyX2 : Nat → FieldType := fun k => match k with
  | 0 => .object "CellarMeter$Text"
  | 1 => .object "CellarMeter$House"
  | 2 => .int
  | _ => .boolean
theorem nmX2 : ∀ a, a < 4 → ∀ b, b < 4 → a ≠ b → (TX2 a).2.1 ≠ (TX2 b).2.1 := by decide +kernel
theorem tyX2_ok : ∀ k, k < 4 → parseFieldDescriptor (TX2 k).2.2.1 = some (tyX2 k) := by decide +kernel
def RX3 : String := "CellarMeter$Household"
def TX3 : u_T := fun k => match k with
  | 0 => ("CellarMeter$Household", "things", "[LCellarMeter$Thing;", true)
  | 1 => ("CellarMeter$Household", "waysIn", "[J", true)
  | 2 => ("CellarMeter$Household", "after", "[J", true)
  | 3 => ("CellarMeter$Household", "before", "[J", true)
  | 4 => ("CellarMeter$Household", "figures", "[I", true)
  | 5 => ("CellarMeter$Household", "lawful", "J", false)
  | 6 => ("CellarMeter$Household", "count", "I", false)
  | _ => ("CellarMeter$Household", "ways", "I", false)
def tyX3 : Nat → FieldType := fun k => match k with
  | 0 => .array (.object "CellarMeter$Thing")
  | 1 => .array .long
  | 2 => .array .long
  | 3 => .array .long
  | 4 => .array .int
  | 5 => .long
  | 6 => .int
  | _ => .int
theorem nmX3 : ∀ a, a < 8 → ∀ b, b < 8 → a ≠ b → (TX3 a).2.1 ≠ (TX3 b).2.1 := by decide +kernel
theorem tyX3_ok : ∀ k, k < 8 → parseFieldDescriptor (TX3 k).2.2.1 = some (tyX3 k) := by decide +kernel
def RX5 : String := "CellarMeter$Meter"
def TX5 : u_T := fun k => match k with
  | 0 => ("CellarMeter$Meter", "watts", "[I", true)
  | _ => ("CellarMeter$Meter", "count", "I", false)
def tyX5 : Nat → FieldType := fun k => match k with
  | 0 => .array .int
  | _ => .int
theorem nmX5 : ∀ a, a < 2 → ∀ b, b < 2 → a ≠ b → (TX5 a).2.1 ≠ (TX5 b).2.1 := by decide +kernel
theorem tyX5_ok : ∀ k, k < 2 → parseFieldDescriptor (TX5 k).2.2.1 = some (tyX5 k) := by decide +kernel
def RX6 : String := "CellarMeter$Tape"
def TX6 : u_T := fun k => match k with
  | 0 => ("CellarMeter$Tape", "items", "[J", true)
  | 1 => ("CellarMeter$Tape", "sort", "I", false)
  | _ => ("CellarMeter$Tape", "size", "I", false)
def tyX6 : Nat → FieldType := fun k => match k with
  | 0 => .array .long
  | 1 => .int
  | _ => .int
theorem nmX6 : ∀ a, a < 3 → ∀ b, b < 3 → a ≠ b → (TX6 a).2.1 ≠ (TX6 b).2.1 := by decide +kernel
theorem tyX6_ok : ∀ k, k < 3 → parseFieldDescriptor (TX6 k).2.2.1 = some (tyX6 k) := by decide +kernel
def RX7 : String := "CellarMeter$Telling"
def TX7 : u_T := fun k => match k with
  | 0 => ("CellarMeter$Telling", "home", "LCellarMeter$Household;", true)
  | 1 => ("CellarMeter$Telling", "meter", "LCellarMeter$Meter;", true)
  | 2 => ("CellarMeter$Telling", "open", "[J", true)
  | 3 => ("CellarMeter$Telling", "fit", "[J", true)
  | 4 => ("CellarMeter$Telling", "inTales", "[J", true)
  | 5 => ("CellarMeter$Telling", "stack", "[J", true)
  | 6 => ("CellarMeter$Telling", "totals", "[I", true)
  | 7 => ("CellarMeter$Telling", "sums", "[I", true)
  | 8 => ("CellarMeter$Telling", "counts", "[I", true)
  | 9 => ("CellarMeter$Telling", "newer", "[I", true)
  | 10 => ("CellarMeter$Telling", "cheapest", "[I", true)
  | 11 => ("CellarMeter$Telling", "row", "[I", true)
  | 12 => ("CellarMeter$Telling", "house", "LCellarMeter$House;", false)
  | 13 => ("CellarMeter$Telling", "length", "I", false)
  | _ => ("CellarMeter$Telling", "ways", "I", false)
def tyX7 : Nat → FieldType := fun k => match k with
  | 0 => .object "CellarMeter$Household"
  | 1 => .object "CellarMeter$Meter"
  | 2 => .array .long
  | 3 => .array .long
  | 4 => .array .long
  | 5 => .array .long
  | 6 => .array .int
  | 7 => .array .int
  | 8 => .array .int
  | 9 => .array .int
  | 10 => .array .int
  | 11 => .array .int
  | 12 => .object "CellarMeter$House"
  | 13 => .int
  | _ => .int
theorem nmX7 : ∀ a, a < 15 → ∀ b, b < 15 → a ≠ b → (TX7 a).2.1 ≠ (TX7 b).2.1 := by decide +kernel
theorem tyX7_ok : ∀ k, k < 15 → parseFieldDescriptor (TX7 k).2.2.1 = some (tyX7 k) := by decide +kernel
def RX8 : String := "CellarMeter$Text"
def TX8 : u_T := fun k => match k with
  | 0 => ("CellarMeter$Text", "bytes", "[I", true)
  | _ => ("CellarMeter$Text", "length", "I", false)
def tyX8 : Nat → FieldType := fun k => match k with
  | 0 => .array .int
  | _ => .int
theorem nmX8 : ∀ a, a < 2 → ∀ b, b < 2 → a ≠ b → (TX8 a).2.1 ≠ (TX8 b).2.1 := by decide +kernel
theorem tyX8_ok : ∀ k, k < 2 → parseFieldDescriptor (TX8 k).2.2.1 = some (tyX8 k) := by decide +kernel
def RX9 : String := "CellarMeter$Thing"
def TX9 : u_T := fun k => match k with
  | 0 => ("CellarMeter$Thing", "number", "I", true)
  | 1 => ("CellarMeter$Thing", "kind", "I", true)
  | _ => ("CellarMeter$Thing", "states", "I", true)
def tyX9 : Nat → FieldType := fun k => match k with
  | 0 => .int
  | 1 => .int
  | _ => .int
theorem nmX9 : ∀ a, a < 3 → ∀ b, b < 3 → a ≠ b → (TX9 a).2.1 ≠ (TX9 b).2.1 := by decide +kernel
theorem tyX9_ok : ∀ k, k < 3 → parseFieldDescriptor (TX9 k).2.2.1 = some (tyX9 k) := by decide +kernel
def RX10 : String := "CellarMeter$Trace"
def TX10 : u_T := fun k => match k with
  | 0 => ("CellarMeter$Trace", "bodies", "[I", true)
  | _ => ("CellarMeter$Trace", "ran", "I", false)
def tyX10 : Nat → FieldType := fun k => match k with
  | 0 => .array .int
  | _ => .int
theorem nmX10 : ∀ a, a < 2 → ∀ b, b < 2 → a ≠ b → (TX10 a).2.1 ≠ (TX10 b).2.1 := by decide +kernel
theorem tyX10_ok : ∀ k, k < 2 → parseFieldDescriptor (TX10 k).2.2.1 = some (tyX10 k) := by decide +kernel
def RX11 : String := "CellarMeter"
def TX11 : u_T := fun k => match k with
  | 0 => ("CellarMeter", "home", "LCellarMeter$Household;", true)
  | 1 => ("CellarMeter", "text", "LCellarMeter$Text;", true)
  | 2 => ("CellarMeter", "reader", "LCellarMeter$HouseReader;", true)
  | 3 => ("CellarMeter", "houses", "[LCellarMeter$House;", true)
  | 4 => ("CellarMeter", "bare", "LCellarMeter$House;", true)
  | 5 => ("CellarMeter", "first", "LCellarMeter$Meter;", true)
  | 6 => ("CellarMeter", "second", "LCellarMeter$Meter;", true)
  | 7 => ("CellarMeter", "imagedFirst", "LCellarMeter$Meter;", true)
  | 8 => ("CellarMeter", "imagedSecond", "LCellarMeter$Meter;", true)
  | 9 => ("CellarMeter", "telling", "LCellarMeter$Telling;", true)
  | 10 => ("CellarMeter", "latest", "LCellarMeter$Trace;", true)
  | 11 => ("CellarMeter", "tapes", "[LCellarMeter$Tape;", true)
  | 12 => ("CellarMeter", "houseCount", "I", false)
  | 13 => ("CellarMeter", "held", "I", false)
  | 14 => ("CellarMeter", "imagedHeld", "I", false)
  | _ => ("CellarMeter", "imaged", "Z", false)
def tyX11 : Nat → FieldType := fun k => match k with
  | 0 => .object "CellarMeter$Household"
  | 1 => .object "CellarMeter$Text"
  | 2 => .object "CellarMeter$HouseReader"
  | 3 => .array (.object "CellarMeter$House")
  | 4 => .object "CellarMeter$House"
  | 5 => .object "CellarMeter$Meter"
  | 6 => .object "CellarMeter$Meter"
  | 7 => .object "CellarMeter$Meter"
  | 8 => .object "CellarMeter$Meter"
  | 9 => .object "CellarMeter$Telling"
  | 10 => .object "CellarMeter$Trace"
  | 11 => .array (.object "CellarMeter$Tape")
  | 12 => .int
  | 13 => .int
  | 14 => .int
  | _ => .boolean
theorem nmX11 : ∀ a, a < 16 → ∀ b, b < 16 → a ≠ b → (TX11 a).2.1 ≠ (TX11 b).2.1 := by decide +kernel
theorem tyX11_ok : ∀ k, k < 16 → parseFieldDescriptor (TX11 k).2.2.1 = some (tyX11 k) := by decide +kernel
def RX12 : String := "CellarMeterModel"
def TX12 : u_T := fun k => match k with
  | 0 => ("CellarMeterModel", "things", "I", false)
  | 1 => ("CellarMeterModel", "ways", "I", false)
  | 2 => ("CellarMeterModel", "kind", "[I", true)
  | 3 => ("CellarMeterModel", "states", "[I", true)
  | 4 => ("CellarMeterModel", "houses", "I", false)
  | 5 => ("CellarMeterModel", "the", "I", false)
  | 6 => ("CellarMeterModel", "fed", "I", false)
  | 7 => ("CellarMeterModel", "at", "I", false)
  | 8 => ("CellarMeterModel", "digits", "I", false)
  | 9 => ("CellarMeterModel", "text", "[I", true)
  | 10 => ("CellarMeterModel", "clauses", "[I", true)
  | 11 => ("CellarMeterModel", "word", "[I", true)
  | 12 => ("CellarMeterModel", "of", "[I", true)
  | 13 => ("CellarMeterModel", "number", "[I", true)
  | 14 => ("CellarMeterModel", "from", "[I", true)
  | 15 => ("CellarMeterModel", "to", "[I", true)
  | 16 => ("CellarMeterModel", "sign", "[I", true)
  | 17 => ("CellarMeterModel", "waits", "[I", true)
  | 18 => ("CellarMeterModel", "signs", "I", false)
  | 19 => ("CellarMeterModel", "waiting", "I", false)
  | 20 => ("CellarMeterModel", "open", "I", false)
  | 21 => ("CellarMeterModel", "watts", "[I", true)
  | 22 => ("CellarMeterModel", "many", "[I", true)
  | 23 => ("CellarMeterModel", "state", "[I", true)
  | 24 => ("CellarMeterModel", "sums", "[I", true)
  | 25 => ("CellarMeterModel", "glads", "[I", true)
  | 26 => ("CellarMeterModel", "changes", "[I", true)
  | 27 => ("CellarMeterModel", "takes", "[I", true)
  | 28 => ("CellarMeterModel", "next", "[Z", true)
  | 29 => ("CellarMeterModel", "pile", "[Z", true)
  | 30 => ("CellarMeterModel", "may", "[Z", true)
  | 31 => ("CellarMeterModel", "fit", "[Z", true)
  | 32 => ("CellarMeterModel", "live", "[Z", true)
  | 33 => ("CellarMeterModel", "best", "[I", true)
  | 34 => ("CellarMeterModel", "tale", "[I", true)
  | 35 => ("CellarMeterModel", "hasImage", "Z", false)
  | 36 => ("CellarMeterModel", "imageThe", "I", false)
  | 37 => ("CellarMeterModel", "imageWatts", "[I", true)
  | 38 => ("CellarMeterModel", "imageMany", "[I", true)
  | 39 => ("CellarMeterModel", "ran", "I", false)
  | 40 => ("CellarMeterModel", "bodies", "[I", true)
  | 41 => ("CellarMeterModel", "sort", "[I", true)
  | 42 => ("CellarMeterModel", "length", "[I", true)
  | 43 => ("CellarMeterModel", "item", "[J", true)
  | _ => ("CellarMeterModel", "aside", "[J", true)
def tyX12 : Nat → FieldType := fun k => match k with
  | 0 => .int
  | 1 => .int
  | 2 => .array .int
  | 3 => .array .int
  | 4 => .int
  | 5 => .int
  | 6 => .int
  | 7 => .int
  | 8 => .int
  | 9 => .array .int
  | 10 => .array .int
  | 11 => .array .int
  | 12 => .array .int
  | 13 => .array .int
  | 14 => .array .int
  | 15 => .array .int
  | 16 => .array .int
  | 17 => .array .int
  | 18 => .int
  | 19 => .int
  | 20 => .int
  | 21 => .array .int
  | 22 => .array .int
  | 23 => .array .int
  | 24 => .array .int
  | 25 => .array .int
  | 26 => .array .int
  | 27 => .array .int
  | 28 => .array .boolean
  | 29 => .array .boolean
  | 30 => .array .boolean
  | 31 => .array .boolean
  | 32 => .array .boolean
  | 33 => .array .int
  | 34 => .array .int
  | 35 => .boolean
  | 36 => .int
  | 37 => .array .int
  | 38 => .array .int
  | 39 => .int
  | 40 => .array .int
  | 41 => .array .int
  | 42 => .array .int
  | 43 => .array .long
  | _ => .array .long
theorem nmX12 : ∀ a, a < 45 → ∀ b, b < 45 → a ≠ b → (TX12 a).2.1 ≠ (TX12 b).2.1 := by decide +kernel
theorem tyX12_ok : ∀ k, k < 45 → parseFieldDescriptor (TX12 k).2.2.1 = some (tyX12 k) := by decide +kernel
def RX0 : String := "CellarMeter$Acts"
def RX4 : String := "CellarMeter$Kinds"
def RJ6 : String := "java/lang/Integer"
def RJ13 : String := "java/lang/Long"
def RJ9 : String := "java/lang/Math"
def RJ0 : String := "java/lang/String"
def RJ1 : String := "java/lang/StringLatin1"
def RJ2 : String := "java/lang/StringUTF16"
def RJ10 : String := "java/lang/System"
def RJ3 : String := "jdk/internal/util/Preconditions"
def cm_cl : List vw_C := [(RX1, TX1, 6), (RX2, TX2, 4), (RX3, TX3, 8), (RX5, TX5, 2), (RX6, TX6, 3), (RX7, TX7, 15), (RX8, TX8, 2), (RX9, TX9, 3), (RX10, TX10, 2), (RX11, TX11, 16), (RX12, TX12, 45)]
