def RX0 : String := "SluiceChain$1"
def TX0 : u_T := fun k => match k with
  | _ => ("", "", "", false)
def tyX0 : Nat → FieldType := fun k => match k with
  | _ => .int
abbrev wsX00 : List Cond := u_ws RX0 TX0 0
theorem nmX0 : ∀ a, a < 0 → ∀ b, b < 0 → a ≠ b → (TX0 a).2.1 ≠ (TX0 b).2.1 := by decide +kernel
theorem tyX0_ok : ∀ k, k < 0 → parseFieldDescriptor (TX0 k).2.2.1 = some (tyX0 k) := by decide +kernel
def RX1 : String := "SluiceChain$Basin"
def TX1 : u_T := fun k => match k with
  | 0 => ("SluiceChain$Basin", "capacity", "I", false)
  | 1 => ("SluiceChain$Basin", "catchment", "I", false)
  | 2 => ("SluiceChain$Basin", "value", "I", false)
  | 3 => ("SluiceChain$Basin", "level", "I", false)
  | 4 => ("SluiceChain$Basin", "opening", "I", false)
  | 5 => ("SluiceChain$Basin", "automatic", "Z", false)
  | 6 => ("SluiceChain$Basin", "threshold", "I", false)
  | 7 => ("SluiceChain$Basin", "spilled", "I", false)
  | _ => ("SluiceChain$Basin", "floodedSteps", "I", false)
def tyX1 : Nat → FieldType := fun k => match k with
  | 0 => .int
  | 1 => .int
  | 2 => .int
  | 3 => .int
  | 4 => .int
  | 5 => .boolean
  | 6 => .int
  | 7 => .int
  | _ => .int
abbrev wsX10 : List Cond := u_ws RX1 TX1 9
theorem nmX1 : ∀ a, a < 9 → ∀ b, b < 9 → a ≠ b → (TX1 a).2.1 ≠ (TX1 b).2.1 := by decide +kernel
theorem tyX1_ok : ∀ k, k < 9 → parseFieldDescriptor (TX1 k).2.2.1 = some (tyX1 k) := by decide +kernel
def RX2 : String := "SluiceChain$Chain"
def TX2 : u_T := fun k => match k with
  | 0 => ("SluiceChain$Chain", "basins", "[LSluiceChain$Basin;", true)
  | 1 => ("SluiceChain$Chain", "basinsInUse", "I", false)
  | 2 => ("SluiceChain$Chain", "forecast", "[I", true)
  | 3 => ("SluiceChain$Chain", "amountsInForecast", "I", false)
  | 4 => ("SluiceChain$Chain", "time", "I", false)
  | 5 => ("SluiceChain$Chain", "rained", "J", false)
  | 6 => ("SluiceChain$Chain", "poured", "J", false)
  | _ => ("SluiceChain$Chain", "river", "J", false)
def tyX2 : Nat → FieldType := fun k => match k with
  | 0 => .array (.object "SluiceChain$Basin")
  | 1 => .int
  | 2 => .array .int
  | 3 => .int
  | 4 => .int
  | 5 => .long
  | 6 => .long
  | _ => .long
abbrev wsX20 : List Cond := u_ws RX2 TX2 8
theorem nmX2 : ∀ a, a < 8 → ∀ b, b < 8 → a ≠ b → (TX2 a).2.1 ≠ (TX2 b).2.1 := by decide +kernel
theorem tyX2_ok : ∀ k, k < 8 → parseFieldDescriptor (TX2 k).2.2.1 = some (tyX2 k) := by decide +kernel
def RX3 : String := "SluiceChain$Command"
def TX3 : u_T := fun k => match k with
  | _ => ("", "", "", false)
def tyX3 : Nat → FieldType := fun k => match k with
  | _ => .int
abbrev wsX30 : List Cond := u_ws RX3 TX3 0
theorem nmX3 : ∀ a, a < 0 → ∀ b, b < 0 → a ≠ b → (TX3 a).2.1 ≠ (TX3 b).2.1 := by decide +kernel
theorem tyX3_ok : ∀ k, k < 0 → parseFieldDescriptor (TX3 k).2.2.1 = some (tyX3 k) := by decide +kernel
def RX4 : String := "SluiceChain$Fault"
def TX4 : u_T := fun k => match k with
  | _ => ("", "", "", false)
def tyX4 : Nat → FieldType := fun k => match k with
  | _ => .int
abbrev wsX40 : List Cond := u_ws RX4 TX4 0
theorem nmX4 : ∀ a, a < 0 → ∀ b, b < 0 → a ≠ b → (TX4 a).2.1 ≠ (TX4 b).2.1 := by decide +kernel
theorem tyX4_ok : ∀ k, k < 0 → parseFieldDescriptor (TX4 k).2.2.1 = some (tyX4 k) := by decide +kernel
def RX5 : String := "SluiceChain$History"
def TX5 : u_T := fun k => match k with
  | 0 => ("SluiceChain$History", "states", "[LSluiceChain$Chain;", true)
  | 1 => ("SluiceChain$History", "next", "I", false)
  | _ => ("SluiceChain$History", "count", "I", false)
def tyX5 : Nat → FieldType := fun k => match k with
  | 0 => .array (.object "SluiceChain$Chain")
  | 1 => .int
  | _ => .int
abbrev wsX50 : List Cond := u_ws RX5 TX5 3
theorem nmX5 : ∀ a, a < 3 → ∀ b, b < 3 → a ≠ b → (TX5 a).2.1 ≠ (TX5 b).2.1 := by decide +kernel
theorem tyX5_ok : ∀ k, k < 3 → parseFieldDescriptor (TX5 k).2.2.1 = some (tyX5 k) := by decide +kernel
def RX6 : String := "SluiceChain$Line"
def TX6 : u_T := fun k => match k with
  | 0 => ("SluiceChain$Line", "signs", "[C", true)
  | _ => ("SluiceChain$Line", "length", "I", false)
def tyX6 : Nat → FieldType := fun k => match k with
  | 0 => .array .char
  | _ => .int
abbrev wsX60 : List Cond := u_ws RX6 TX6 2
theorem nmX6 : ∀ a, a < 2 → ∀ b, b < 2 → a ≠ b → (TX6 a).2.1 ≠ (TX6 b).2.1 := by decide +kernel
theorem tyX6_ok : ∀ k, k < 2 → parseFieldDescriptor (TX6 k).2.2.1 = some (tyX6 k) := by decide +kernel
def RX7 : String := "SluiceChain$PlanSearch"
def TX7 : u_T := fun k => match k with
  | _ => ("SluiceChain$PlanSearch", "tries", "[LSluiceChain$Chain;", true)
def tyX7 : Nat → FieldType := fun k => match k with
  | _ => .array (.object "SluiceChain$Chain")
abbrev wsX70 : List Cond := u_ws RX7 TX7 1
theorem nmX7 : ∀ a, a < 1 → ∀ b, b < 1 → a ≠ b → (TX7 a).2.1 ≠ (TX7 b).2.1 := by decide +kernel
theorem tyX7_ok : ∀ k, k < 1 → parseFieldDescriptor (TX7 k).2.2.1 = some (tyX7 k) := by decide +kernel
def RX8 : String := "SluiceChain$Program"
def TX8 : u_T := fun k => match k with
  | 0 => ("SluiceChain$Program", "text", "[C", true)
  | 1 => ("SluiceChain$Program", "length", "I", false)
  | 2 => ("SluiceChain$Program", "position", "I", false)
  | 3 => ("SluiceChain$Program", "command", "LSluiceChain$Command;", false)
  | 4 => ("SluiceChain$Program", "arguments", "[I", true)
  | _ => ("SluiceChain$Program", "argumentCount", "I", false)
def tyX8 : Nat → FieldType := fun k => match k with
  | 0 => .array .char
  | 1 => .int
  | 2 => .int
  | 3 => .object "SluiceChain$Command"
  | 4 => .array .int
  | _ => .int
abbrev wsX80 : List Cond := u_ws RX8 TX8 6
theorem nmX8 : ∀ a, a < 6 → ∀ b, b < 6 → a ≠ b → (TX8 a).2.1 ≠ (TX8 b).2.1 := by decide +kernel
theorem tyX8_ok : ∀ k, k < 6 → parseFieldDescriptor (TX8 k).2.2.1 = some (tyX8 k) := by decide +kernel
def RX9 : String := "SluiceChain$Protection"
def TX9 : u_T := fun k => match k with
  | 0 => ("SluiceChain$Protection", "bagsOf", "[I", true)
  | 1 => ("SluiceChain$Protection", "valueOf", "[I", true)
  | 2 => ("SluiceChain$Protection", "count", "I", false)
  | _ => ("SluiceChain$Protection", "bestWith", "[I", true)
def tyX9 : Nat → FieldType := fun k => match k with
  | 0 => .array .int
  | 1 => .array .int
  | 2 => .int
  | _ => .array .int
abbrev wsX90 : List Cond := u_ws RX9 TX9 4
theorem nmX9 : ∀ a, a < 4 → ∀ b, b < 4 → a ≠ b → (TX9 a).2.1 ≠ (TX9 b).2.1 := by decide +kernel
theorem tyX9_ok : ∀ k, k < 4 → parseFieldDescriptor (TX9 k).2.2.1 = some (tyX9 k) := by decide +kernel
def RX10 : String := "SluiceChain"
def TX10 : u_T := fun k => match k with
  | 0 => ("SluiceChain", "chain", "LSluiceChain$Chain;", true)
  | 1 => ("SluiceChain", "saved", "LSluiceChain$Chain;", true)
  | 2 => ("SluiceChain", "before", "LSluiceChain$Chain;", true)
  | 3 => ("SluiceChain", "ahead", "LSluiceChain$Chain;", true)
  | 4 => ("SluiceChain", "history", "LSluiceChain$History;", true)
  | 5 => ("SluiceChain", "plans", "LSluiceChain$PlanSearch;", true)
  | 6 => ("SluiceChain", "protection", "LSluiceChain$Protection;", true)
  | 7 => ("SluiceChain", "program", "LSluiceChain$Program;", true)
  | 8 => ("SluiceChain", "line", "LSluiceChain$Line;", true)
  | 9 => ("SluiceChain", "hasSaved", "Z", false)
  | 10 => ("SluiceChain", "storedErrorPosition", "I", false)
  | _ => ("SluiceChain", "storedFailedCommand", "I", false)
def tyX10 : Nat → FieldType := fun k => match k with
  | 0 => .object "SluiceChain$Chain"
  | 1 => .object "SluiceChain$Chain"
  | 2 => .object "SluiceChain$Chain"
  | 3 => .object "SluiceChain$Chain"
  | 4 => .object "SluiceChain$History"
  | 5 => .object "SluiceChain$PlanSearch"
  | 6 => .object "SluiceChain$Protection"
  | 7 => .object "SluiceChain$Program"
  | 8 => .object "SluiceChain$Line"
  | 9 => .boolean
  | 10 => .int
  | _ => .int
abbrev wsX100 : List Cond := u_ws RX10 TX10 12
theorem nmX10 : ∀ a, a < 12 → ∀ b, b < 12 → a ≠ b → (TX10 a).2.1 ≠ (TX10 b).2.1 := by decide +kernel
theorem tyX10_ok : ∀ k, k < 12 → parseFieldDescriptor (TX10 k).2.2.1 = some (tyX10 k) := by decide +kernel
def RX11 : String := "SluiceChainModel"
def TX11 : u_T := fun k => match k with
  | _ => ("", "", "", false)
def tyX11 : Nat → FieldType := fun k => match k with
  | _ => .int
abbrev wsX110 : List Cond := u_ws RX11 TX11 0
theorem nmX11 : ∀ a, a < 0 → ∀ b, b < 0 → a ≠ b → (TX11 a).2.1 ≠ (TX11 b).2.1 := by decide +kernel
theorem tyX11_ok : ∀ k, k < 0 → parseFieldDescriptor (TX11 k).2.2.1 = some (tyX11 k) := by decide +kernel
def RJ5 : String := "java/lang/AbstractStringBuilder"
def RJ6 : String := "java/lang/Integer"
def RJ9 : String := "java/lang/Math"
def RJ0 : String := "java/lang/String"
def TJ0 : u_T := fun k => match k with
  | 0 => ("java/lang/String", "value", "[B", true)
  | 1 => ("java/lang/String", "coder", "B", true)
  | 2 => ("java/lang/String", "hash", "I", false)
  | _ => ("java/lang/String", "hashIsZero", "Z", false)
def tyJ0 : Nat → FieldType := fun k => match k with
  | 0 => .array .byte
  | 1 => .byte
  | 2 => .int
  | _ => .boolean
abbrev wsJ00 : List Cond := u_ws RJ0 TJ0 4
theorem nmJ0 : ∀ a, a < 4 → ∀ b, b < 4 → a ≠ b → (TJ0 a).2.1 ≠ (TJ0 b).2.1 := by decide +kernel
theorem tyJ0_ok : ∀ k, k < 4 → parseFieldDescriptor (TJ0 k).2.2.1 = some (tyJ0 k) := by decide +kernel
def RJ4 : String := "java/lang/StringBuilder"
def TJ4 : u_T := fun k => match k with
  | 0 => ("java/lang/AbstractStringBuilder", "value", "[B", false)
  | 1 => ("java/lang/AbstractStringBuilder", "coder", "B", false)
  | 2 => ("java/lang/AbstractStringBuilder", "maybeLatin1", "Z", false)
  | _ => ("java/lang/AbstractStringBuilder", "count", "I", false)
def tyJ4 : Nat → FieldType := fun k => match k with
  | 0 => .array .byte
  | 1 => .byte
  | 2 => .boolean
  | _ => .int
abbrev wsJ40 : List Cond := u_ws RJ4 TJ4 4
theorem nmJ4 : ∀ a, a < 4 → ∀ b, b < 4 → a ≠ b → (TJ4 a).2.1 ≠ (TJ4 b).2.1 := by decide +kernel
theorem tyJ4_ok : ∀ k, k < 4 → parseFieldDescriptor (TJ4 k).2.2.1 = some (tyJ4 k) := by decide +kernel
def RJ1 : String := "java/lang/StringLatin1"
def RJ2 : String := "java/lang/StringUTF16"
def RJ10 : String := "java/lang/System"
def RJ7 : String := "java/util/Arrays"
def RJ8 : String := "jdk/internal/util/ArraysSupport"
def RJ3 : String := "jdk/internal/util/Preconditions"
