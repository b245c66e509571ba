section
def RX0 : String := "StoneHome$Forecast"
def TX0 : u_T := fun k => match k with
  | 0 => ("StoneHome$Forecast", "table", "LStoneHome$Table;", true)
  | 1 => ("StoneHome$Forecast", "street", "LStoneHome$Street;", false)
  | 2 => ("StoneHome$Forecast", "chances", "[I", false)
  | 3 => ("StoneHome$Forecast", "later", "[I", false)
  | 4 => ("StoneHome$Forecast", "isReady", "Z", false)
  | 5 => ("StoneHome$Forecast", "readyStep", "I", false)
  | 6 => ("StoneHome$Forecast", "readySteps", "I", false)
  | 7 => ("StoneHome$Forecast", "readyRule", "I", false)
  | _ => ("StoneHome$Forecast", "readyGoal", "I", false)
def tyX0 : Nat → FieldType := fun k => match k with
  | 0 => .object "StoneHome$Table"
  | 1 => .object "StoneHome$Street"
  | 2 => .array .int
  | 3 => .array .int
  | 4 => .boolean
  | 5 => .int
  | 6 => .int
  | 7 => .int
  | _ => .int
abbrev wsX00 : List Cond := u_ws RX0 TX0 9
theorem nmX0 : ∀ a, a < 9 → ∀ b, b < 9 → a ≠ b → (TX0 a).2.1 ≠ (TX0 b).2.1 := by decide +kernel
theorem tyX0_ok : ∀ k, k < 9 → parseFieldDescriptor (TX0 k).2.2.1 = some (tyX0 k) := by decide +kernel
def RX1 : String := "StoneHome$Laws"
def TX1 : u_T := fun k => match k with
  | 0 => ("StoneHome$Laws", "steps", "[I", true)
  | 1 => ("StoneHome$Laws", "size", "I", false)
  | 2 => ("StoneHome$Laws", "starts", "[I", true)
  | 3 => ("StoneHome$Laws", "timed", "I", false)
  | 4 => ("StoneHome$Laws", "waiting", "[I", true)
  | 5 => ("StoneHome$Laws", "waitingSize", "I", false)
  | 6 => ("StoneHome$Laws", "facts", "[I", true)
  | _ => ("StoneHome$Laws", "stack", "[I", true)
def tyX1 : Nat → FieldType := fun k => match k with
  | 0 => .array .int
  | 1 => .int
  | 2 => .array .int
  | 3 => .int
  | 4 => .array .int
  | 5 => .int
  | 6 => .array .int
  | _ => .array .int
abbrev wsX10 : List Cond := u_ws RX1 TX1 8
theorem nmX1 : ∀ a, a < 8 → ∀ b, b < 8 → a ≠ b → (TX1 a).2.1 ≠ (TX1 b).2.1 := by decide +kernel
theorem tyX1_ok : ∀ k, k < 8 → parseFieldDescriptor (TX1 k).2.2.1 = some (tyX1 k) := by decide +kernel
def RX2 : String := "StoneHome$Past"
def TX2 : u_T := fun k => match k with
  | 0 => ("StoneHome$Past", "ring", "[LStoneHome$Stone;", true)
  | 1 => ("StoneHome$Past", "next", "I", false)
  | _ => ("StoneHome$Past", "size", "I", false)
def tyX2 : Nat → FieldType := fun k => match k with
  | 0 => .array (.object "StoneHome$Stone")
  | 1 => .int
  | _ => .int
abbrev wsX20 : List Cond := u_ws RX2 TX2 3
theorem nmX2 : ∀ a, a < 3 → ∀ b, b < 3 → a ≠ b → (TX2 a).2.1 ≠ (TX2 b).2.1 := by decide +kernel
theorem tyX2_ok : ∀ k, k < 3 → parseFieldDescriptor (TX2 k).2.2.1 = some (tyX2 k) := by decide +kernel
def RX3 : String := "StoneHome$Race"
def TX3 : u_T := fun k => match k with
  | 0 => ("StoneHome$Race", "table", "LStoneHome$Table;", true)
  | 1 => ("StoneHome$Race", "street", "LStoneHome$Street;", false)
  | 2 => ("StoneHome$Race", "odds", "[I", true)
  | 3 => ("StoneHome$Race", "line", "[I", true)
  | 4 => ("StoneHome$Race", "mySoonest", "[I", true)
  | _ => ("StoneHome$Race", "hisSoonest", "[I", true)
def tyX3 : Nat → FieldType := fun k => match k with
  | 0 => .object "StoneHome$Table"
  | 1 => .object "StoneHome$Street"
  | 2 => .array .int
  | 3 => .array .int
  | 4 => .array .int
  | _ => .array .int
abbrev wsX30 : List Cond := u_ws RX3 TX3 6
theorem nmX3 : ∀ a, a < 6 → ∀ b, b < 6 → a ≠ b → (TX3 a).2.1 ≠ (TX3 b).2.1 := by decide +kernel
theorem tyX3_ok : ∀ k, k < 6 → parseFieldDescriptor (TX3 k).2.2.1 = some (tyX3 k) := by decide +kernel
def RX4 : String := "StoneHome$Reader"
def TX4 : u_T := fun k => match k with
  | 0 => ("StoneHome$Reader", "tokens", "LStoneHome$Tokens;", true)
  | 1 => ("StoneHome$Reader", "street", "LStoneHome$Street;", false)
  | 2 => ("StoneHome$Reader", "taken", "I", false)
  | 3 => ("StoneHome$Reader", "kind", "I", false)
  | 4 => ("StoneHome$Reader", "from", "I", false)
  | 5 => ("StoneHome$Reader", "number", "I", false)
  | 6 => ("StoneHome$Reader", "law", "I", false)
  | 7 => ("StoneHome$Reader", "kickNames", "[J", true)
  | 8 => ("StoneHome$Reader", "fault", "I", false)
  | 9 => ("StoneHome$Reader", "faultAt", "I", false)
  | 10 => ("StoneHome$Reader", "lateFault", "I", false)
  | _ => ("StoneHome$Reader", "lateAt", "I", false)
def tyX4 : Nat → FieldType := fun k => match k with
  | 0 => .object "StoneHome$Tokens"
  | 1 => .object "StoneHome$Street"
  | 2 => .int
  | 3 => .int
  | 4 => .int
  | 5 => .int
  | 6 => .int
  | 7 => .array .long
  | 8 => .int
  | 9 => .int
  | 10 => .int
  | _ => .int
abbrev wsX40 : List Cond := u_ws RX4 TX4 12
theorem nmX4 : ∀ a, a < 12 → ∀ b, b < 12 → a ≠ b → (TX4 a).2.1 ≠ (TX4 b).2.1 := by decide +kernel
theorem tyX4_ok : ∀ k, k < 12 → parseFieldDescriptor (TX4 k).2.2.1 = some (tyX4 k) := by decide +kernel
def RX5 : String := "StoneHome$Scratches"
def TX5 : u_T := fun k => match k with
  | 0 => ("StoneHome$Scratches", "squares", "[I", true)
  | 1 => ("StoneHome$Scratches", "told", "I", false)
  | 2 => ("StoneHome$Scratches", "ways", "[I", true)
  | 3 => ("StoneHome$Scratches", "kicks", "I", false)
  | 4 => ("StoneHome$Scratches", "startSide", "I", false)
  | 5 => ("StoneHome$Scratches", "sides", "[I", true)
  | _ => ("StoneHome$Scratches", "sidesBehind", "[I", true)
def tyX5 : Nat → FieldType := fun k => match k with
  | 0 => .array .int
  | 1 => .int
  | 2 => .array .int
  | 3 => .int
  | 4 => .int
  | 5 => .array .int
  | _ => .array .int
abbrev wsX50 : List Cond := u_ws RX5 TX5 7
theorem nmX5 : ∀ a, a < 7 → ∀ b, b < 7 → a ≠ b → (TX5 a).2.1 ≠ (TX5 b).2.1 := by decide +kernel
theorem tyX5_ok : ∀ k, k < 7 → parseFieldDescriptor (TX5 k).2.2.1 = some (tyX5 k) := by decide +kernel
def RX6 : String := "StoneHome$Stone"
def TX6 : u_T := fun k => match k with
  | 0 => ("StoneHome$Stone", "square", "I", false)
  | 1 => ("StoneHome$Stone", "side", "I", false)
  | 2 => ("StoneHome$Stone", "lives", "I", false)
  | 3 => ("StoneHome$Stone", "livesLost", "I", false)
  | 4 => ("StoneHome$Stone", "done", "I", false)
  | 5 => ("StoneHome$Stone", "touches", "I", false)
  | 6 => ("StoneHome$Stone", "state", "I", false)
  | _ => ("StoneHome$Stone", "isHeld", "Z", false)
def tyX6 : Nat → FieldType := fun k => match k with
  | 0 => .int
  | 1 => .int
  | 2 => .int
  | 3 => .int
  | 4 => .int
  | 5 => .int
  | 6 => .int
  | _ => .boolean
abbrev wsX60 : List Cond := u_ws RX6 TX6 8
theorem nmX6 : ∀ a, a < 8 → ∀ b, b < 8 → a ≠ b → (TX6 a).2.1 ≠ (TX6 b).2.1 := by decide +kernel
theorem tyX6_ok : ∀ k, k < 8 → parseFieldDescriptor (TX6 k).2.2.1 = some (tyX6 k) := by decide +kernel
def RX7 : String := "StoneHome$Street"
def TX7 : u_T := fun k => match k with
  | 0 => ("StoneHome$Street", "length", "I", false)
  | 1 => ("StoneHome$Street", "rows", "I", false)
  | 2 => ("StoneHome$Street", "sorts", "[I", true)
  | 3 => ("StoneHome$Street", "faces", "I", false)
  | 4 => ("StoneHome$Street", "kicks", "I", false)
  | 5 => ("StoneHome$Street", "outcomes", "[I", true)
  | 6 => ("StoneHome$Street", "sixths", "[I", true)
  | 7 => ("StoneHome$Street", "far", "[I", true)
  | 8 => ("StoneHome$Street", "aside", "[I", true)
  | 9 => ("StoneHome$Street", "turns", "[I", true)
  | 10 => ("StoneHome$Street", "laws", "LStoneHome$Laws;", true)
  | 11 => ("StoneHome$Street", "stoneSpot", "[I", true)
  | 12 => ("StoneHome$Street", "friendSpot", "[I", true)
  | 13 => ("StoneHome$Street", "lives", "I", false)
  | 14 => ("StoneHome$Street", "takes", "I", false)
  | _ => ("StoneHome$Street", "seed", "I", false)
def tyX7 : Nat → FieldType := fun k => match k with
  | 0 => .int
  | 1 => .int
  | 2 => .array .int
  | 3 => .int
  | 4 => .int
  | 5 => .array .int
  | 6 => .array .int
  | 7 => .array .int
  | 8 => .array .int
  | 9 => .array .int
  | 10 => .object "StoneHome$Laws"
  | 11 => .array .int
  | 12 => .array .int
  | 13 => .int
  | 14 => .int
  | _ => .int
abbrev wsX70 : List Cond := u_ws RX7 TX7 16
theorem nmX7 : ∀ a, a < 16 → ∀ b, b < 16 → a ≠ b → (TX7 a).2.1 ≠ (TX7 b).2.1 := by decide +kernel
theorem tyX7_ok : ∀ k, k < 16 → parseFieldDescriptor (TX7 k).2.2.1 = some (tyX7 k) := by decide +kernel
def RX8 : String := "StoneHome$Table"
def TX8 : u_T := fun k => match k with
  | 0 => ("StoneHome$Table", "street", "LStoneHome$Street;", false)
  | 1 => ("StoneHome$Table", "rows", "[[I", true)
  | 2 => ("StoneHome$Table", "steps", "[I", true)
  | 3 => ("StoneHome$Table", "landings", "[I", false)
  | 4 => ("StoneHome$Table", "lies", "[I", true)
  | 5 => ("StoneHome$Table", "openLies", "I", false)
  | _ => ("StoneHome$Table", "allLies", "I", false)
def tyX8 : Nat → FieldType := fun k => match k with
  | 0 => .object "StoneHome$Street"
  | 1 => .array (.array .int)
  | 2 => .array .int
  | 3 => .array .int
  | 4 => .array .int
  | 5 => .int
  | _ => .int
abbrev wsX80 : List Cond := u_ws RX8 TX8 7
theorem nmX8 : ∀ a, a < 7 → ∀ b, b < 7 → a ≠ b → (TX8 a).2.1 ≠ (TX8 b).2.1 := by decide +kernel
theorem tyX8_ok : ∀ k, k < 7 → parseFieldDescriptor (TX8 k).2.2.1 = some (tyX8 k) := by decide +kernel
def RX9 : String := "StoneHome$Tokens"
def TX9 : u_T := fun k => match k with
  | 0 => ("StoneHome$Tokens", "kinds", "[I", true)
  | 1 => ("StoneHome$Tokens", "places", "[I", true)
  | 2 => ("StoneHome$Tokens", "numbers", "[I", true)
  | 3 => ("StoneHome$Tokens", "text", "[B", true)
  | 4 => ("StoneHome$Tokens", "size", "I", false)
  | 5 => ("StoneHome$Tokens", "at", "I", false)
  | 6 => ("StoneHome$Tokens", "kind", "I", false)
  | _ => ("StoneHome$Tokens", "number", "I", false)
def tyX9 : Nat → FieldType := fun k => match k with
  | 0 => .array .int
  | 1 => .array .int
  | 2 => .array .int
  | 3 => .array .byte
  | 4 => .int
  | 5 => .int
  | 6 => .int
  | _ => .int
abbrev wsX90 : List Cond := u_ws RX9 TX9 8
theorem nmX9 : ∀ a, a < 8 → ∀ b, b < 8 → a ≠ b → (TX9 a).2.1 ≠ (TX9 b).2.1 := by decide +kernel
theorem tyX9_ok : ∀ k, k < 8 → parseFieldDescriptor (TX9 k).2.2.1 = some (tyX9 k) := by decide +kernel
def RX10 : String := "StoneHome"
def TX10 : u_T := fun k => match k with
  | 0 => ("StoneHome", "tape", "[B", true)
  | 1 => ("StoneHome", "tapeSize", "I", false)
  | 2 => ("StoneHome", "faultPlace", "I", false)
  | 3 => ("StoneHome", "street", "LStoneHome$Street;", false)
  | 4 => ("StoneHome", "spare", "LStoneHome$Street;", false)
  | 5 => ("StoneHome", "reader", "LStoneHome$Reader;", true)
  | 6 => ("StoneHome", "stone", "LStoneHome$Stone;", true)
  | 7 => ("StoneHome", "past", "LStoneHome$Past;", true)
  | 8 => ("StoneHome", "slots", "[LStoneHome$Stone;", true)
  | 9 => ("StoneHome", "table", "LStoneHome$Table;", true)
  | 10 => ("StoneHome", "forecast", "LStoneHome$Forecast;", true)
  | 11 => ("StoneHome", "race", "LStoneHome$Race;", true)
  | _ => ("StoneHome", "scratches", "LStoneHome$Scratches;", true)
def tyX10 : Nat → FieldType := fun k => match k with
  | 0 => .array .byte
  | 1 => .int
  | 2 => .int
  | 3 => .object "StoneHome$Street"
  | 4 => .object "StoneHome$Street"
  | 5 => .object "StoneHome$Reader"
  | 6 => .object "StoneHome$Stone"
  | 7 => .object "StoneHome$Past"
  | 8 => .array (.object "StoneHome$Stone")
  | 9 => .object "StoneHome$Table"
  | 10 => .object "StoneHome$Forecast"
  | 11 => .object "StoneHome$Race"
  | _ => .object "StoneHome$Scratches"
abbrev wsX100 : List Cond := u_ws RX10 TX10 13
theorem nmX10 : ∀ a, a < 13 → ∀ b, b < 13 → a ≠ b → (TX10 a).2.1 ≠ (TX10 b).2.1 := by decide +kernel
theorem tyX10_ok : ∀ k, k < 13 → parseFieldDescriptor (TX10 k).2.2.1 = some (tyX10 k) := by decide +kernel
def RX11 : String := "StoneHomeModel"
def TX11 : u_T := fun k => match k with
  | 0 => ("StoneHomeModel", "thrown", "I", false)
  | 1 => ("StoneHomeModel", "tape", "[B", true)
  | 2 => ("StoneHomeModel", "taped", "I", false)
  | 3 => ("StoneHomeModel", "text", "[B", true)
  | 4 => ("StoneHomeModel", "size", "I", false)
  | 5 => ("StoneHomeModel", "tKind", "[I", true)
  | 6 => ("StoneHomeModel", "tPlace", "[I", true)
  | 7 => ("StoneHomeModel", "tValue", "[I", true)
  | 8 => ("StoneHomeModel", "tName", "[J", true)
  | 9 => ("StoneHomeModel", "keys", "[J", true)
  | 10 => ("StoneHomeModel", "tokens", "I", false)
  | 11 => ("StoneHomeModel", "t", "I", false)
  | 12 => ("StoneHomeModel", "open", "I", false)
  | 13 => ("StoneHomeModel", "fault", "I", false)
  | 14 => ("StoneHomeModel", "faultPlace", "I", false)
  | 15 => ("StoneHomeModel", "worst", "I", false)
  | 16 => ("StoneHomeModel", "worstPlace", "I", false)
  | 17 => ("StoneHomeModel", "place", "I", false)
  | 18 => ("StoneHomeModel", "live", "I", false)
  | 19 => ("StoneHomeModel", "side", "I", false)
  | 20 => ("StoneHomeModel", "names", "I", false)
  | 21 => ("StoneHomeModel", "nameOf", "[J", true)
  | 22 => ("StoneHomeModel", "rows", "[I", true)
  | 23 => ("StoneHomeModel", "wide", "[I", true)
  | 24 => ("StoneHomeModel", "squareOf", "[I", true)
  | 25 => ("StoneHomeModel", "faces", "[I", true)
  | 26 => ("StoneHomeModel", "kicks", "[I", true)
  | 27 => ("StoneHomeModel", "outcomes", "[I", true)
  | 28 => ("StoneHomeModel", "sixths", "[I", true)
  | 29 => ("StoneHomeModel", "byAlong", "[I", true)
  | 30 => ("StoneHomeModel", "byAcross", "[I", true)
  | 31 => ("StoneHomeModel", "turns", "[I", true)
  | 32 => ("StoneHomeModel", "stone", "[I", true)
  | 33 => ("StoneHomeModel", "friend", "[I", true)
  | 34 => ("StoneHomeModel", "livesTold", "[I", true)
  | 35 => ("StoneHomeModel", "takes", "[I", true)
  | 36 => ("StoneHomeModel", "seed", "[I", true)
  | 37 => ("StoneHomeModel", "lawFirst", "[I", true)
  | 38 => ("StoneHomeModel", "lawLast", "[I", true)
  | 39 => ("StoneHomeModel", "branches", "I", false)
  | 40 => ("StoneHomeModel", "hasTest", "[Z", true)
  | 41 => ("StoneHomeModel", "testFrom", "[I", true)
  | 42 => ("StoneHomeModel", "testMid", "[I", true)
  | 43 => ("StoneHomeModel", "testTo", "[I", true)
  | 44 => ("StoneHomeModel", "termTo", "[I", true)
  | 45 => ("StoneHomeModel", "codes", "I", false)
  | 46 => ("StoneHomeModel", "code", "[I", true)
  | 47 => ("StoneHomeModel", "codeInt", "[I", true)
  | 48 => ("StoneHomeModel", "waits", "[I", true)
  | 49 => ("StoneHomeModel", "waiting", "I", false)
  | 50 => ("StoneHomeModel", "variables", "[I", true)
  | 51 => ("StoneHomeModel", "pile", "[I", true)
  | 52 => ("StoneHomeModel", "isBroken", "Z", false)
  | 53 => ("StoneHomeModel", "now", "[I", true)
  | 54 => ("StoneHomeModel", "row", "[I", true)
  | 55 => ("StoneHomeModel", "isLosing", "Z", false)
  | 56 => ("StoneHomeModel", "chance", "[I", true)
  | 57 => ("StoneHomeModel", "chanceThen", "[I", true)
  | 58 => ("StoneHomeModel", "undos", "I", false)
  | 59 => ("StoneHomeModel", "history", "[I", true)
  | 60 => ("StoneHomeModel", "pair", "[I", true)
  | 61 => ("StoneHomeModel", "pairThen", "[I", true)
  | 62 => ("StoneHomeModel", "cameTo", "[I", true)
  | 63 => ("StoneHomeModel", "told", "I", false)
  | 64 => ("StoneHomeModel", "toldAlong", "[I", true)
  | 65 => ("StoneHomeModel", "toldAcross", "[I", true)
  | 66 => ("StoneHomeModel", "byFace", "[I", true)
  | 67 => ("StoneHomeModel", "byFaceThen", "[I", true)
  | 68 => ("StoneHomeModel", "isHeld", "[Z", true)
  | _ => ("StoneHomeModel", "heldRows", "[I", true)
def tyX11 : Nat → FieldType := fun k => match k with
  | 0 => .int
  | 1 => .array .byte
  | 2 => .int
  | 3 => .array .byte
  | 4 => .int
  | 5 => .array .int
  | 6 => .array .int
  | 7 => .array .int
  | 8 => .array .long
  | 9 => .array .long
  | 10 => .int
  | 11 => .int
  | 12 => .int
  | 13 => .int
  | 14 => .int
  | 15 => .int
  | 16 => .int
  | 17 => .int
  | 18 => .int
  | 19 => .int
  | 20 => .int
  | 21 => .array .long
  | 22 => .array .int
  | 23 => .array .int
  | 24 => .array .int
  | 25 => .array .int
  | 26 => .array .int
  | 27 => .array .int
  | 28 => .array .int
  | 29 => .array .int
  | 30 => .array .int
  | 31 => .array .int
  | 32 => .array .int
  | 33 => .array .int
  | 34 => .array .int
  | 35 => .array .int
  | 36 => .array .int
  | 37 => .array .int
  | 38 => .array .int
  | 39 => .int
  | 40 => .array .boolean
  | 41 => .array .int
  | 42 => .array .int
  | 43 => .array .int
  | 44 => .array .int
  | 45 => .int
  | 46 => .array .int
  | 47 => .array .int
  | 48 => .array .int
  | 49 => .int
  | 50 => .array .int
  | 51 => .array .int
  | 52 => .boolean
  | 53 => .array .int
  | 54 => .array .int
  | 55 => .boolean
  | 56 => .array .int
  | 57 => .array .int
  | 58 => .int
  | 59 => .array .int
  | 60 => .array .int
  | 61 => .array .int
  | 62 => .array .int
  | 63 => .int
  | 64 => .array .int
  | 65 => .array .int
  | 66 => .array .int
  | 67 => .array .int
  | 68 => .array .boolean
  | _ => .array .int
abbrev wsX110 : List Cond := u_ws RX11 TX11 70
theorem nmX11 : ∀ a, a < 70 → ∀ b, b < 70 → a ≠ b → (TX11 a).2.1 ≠ (TX11 b).2.1 := by decide +kernel
theorem tyX11_ok : ∀ k, k < 70 → parseFieldDescriptor (TX11 k).2.2.1 = some (tyX11 k) := by decide +kernel
def RJ11 : String := "java/lang/Character"
def RJ9 : String := "java/lang/Math"
def RJ0 : String := "java/lang/String"
def RJ1 : String := "java/lang/StringLatin1"
def RJ2 : String := "java/lang/StringUTF16"
def RJ10 : String := "java/lang/System"
def RJ7 : String := "java/util/Arrays"
def RJ3 : String := "jdk/internal/util/Preconditions"
def RL : String := "StoneHomeLaw"
abbrev am_cl : List vw_C := [(RX0, TX0, 9), (RX1, TX1, 8), (RX2, TX2, 3), (RX3, TX3, 6), (RX4, TX4, 12), (RX5, TX5, 7), (RX6, TX6, 8), (RX7, TX7, 16), (RX8, TX8, 7), (RX9, TX9, 8), (RX10, TX10, 13), (RX11, TX11, 70)]
/-- a class' name by its number -/
def am_cn : Nat → String
  | 0 => RX0 | 1 => RX1 | 2 => RX2 | 3 => RX3 | 4 => RX4 | 5 => RX5 | 6 => RX6 | 7 => RX7 | 8 => RX8 | 9 => RX9 | 10 => RX10 | 11 => RX11
  | 12 => RL | 13 => RJ7 | 14 => RJ9 | 15 => RJ0 | _ => RJ1
/-- how many fields, and of which types -/
def am_nf : Nat → Nat
  | 0 => 9 | 1 => 8 | 2 => 3 | 3 => 6 | 4 => 12 | 5 => 7 | 6 => 8 | 7 => 16 | 8 => 7 | 9 => 8 | 10 => 13 | 11 => 70 | _ => 0
def am_ft : Nat → Nat → FieldType
  | 0 => tyX0 | 1 => tyX1 | 2 => tyX2 | 3 => tyX3 | 4 => tyX4 | 5 => tyX5 | 6 => tyX6 | 7 => tyX7 | 8 => tyX8 | 9 => tyX9 | 10 => tyX10 | _ => tyX11
def am_tb : Nat → u_T
  | 0 => TX0 | 1 => TX1 | 2 => TX2 | 3 => TX3 | 4 => TX4 | 5 => TX5 | 6 => TX6 | 7 => TX7 | 8 => TX8 | 9 => TX9 | 10 => TX10 | _ => TX11
/-- an object's fields as they are born -/
def am_df (c : Nat) : List Value := (List.range (am_nf c)).map (fun k => defaultValue (am_ft c k))
theorem am_clAt : ∀ c, c < 12 → am_cl[c]? = some (am_cn c, am_tb c, am_nf c) := by
  intro c hc
  rcases (show c = 0 ∨ c = 1 ∨ c = 2 ∨ c = 3 ∨ c = 4 ∨ c = 5 ∨ c = 6 ∨ c = 7 ∨ c = 8 ∨ c = 9 ∨ c = 10 ∨ c = 11 by omega) with h | h | h | h | h | h | h | h | h | h | h | h <;> subst h <;> rfl
theorem am_nmAt : ∀ c, c < 12 → ∀ a, a < am_nf c → ∀ b, b < am_nf c → a ≠ b → (am_tb c a).2.1 ≠ (am_tb c b).2.1 := by
  intro c hc
  rcases (show c = 0 ∨ c = 1 ∨ c = 2 ∨ c = 3 ∨ c = 4 ∨ c = 5 ∨ c = 6 ∨ c = 7 ∨ c = 8 ∨ c = 9 ∨ c = 10 ∨ c = 11 by omega) with h | h | h | h | h | h | h | h | h | h | h | h <;> subst h
  · exact nmX0
  · exact nmX1
  · exact nmX2
  · exact nmX3
  · exact nmX4
  · exact nmX5
  · exact nmX6
  · exact nmX7
  · exact nmX8
  · exact nmX9
  · exact nmX10
  · exact nmX11
theorem am_tyAt : ∀ c, c < 12 → ∀ k, k < am_nf c → parseFieldDescriptor (am_tb c k).2.2.1 = some (am_ft c k) := by
  intro c hc
  rcases (show c = 0 ∨ c = 1 ∨ c = 2 ∨ c = 3 ∨ c = 4 ∨ c = 5 ∨ c = 6 ∨ c = 7 ∨ c = 8 ∨ c = 9 ∨ c = 10 ∨ c = 11 by omega) with h | h | h | h | h | h | h | h | h | h | h | h <;> subst h
  · exact tyX0_ok
  · exact tyX1_ok
  · exact tyX2_ok
  · exact tyX3_ok
  · exact tyX4_ok
  · exact tyX5_ok
  · exact tyX6_ok
  · exact tyX7_ok
  · exact tyX8_ok
  · exact tyX9_ok
  · exact tyX10_ok
  · exact tyX11_ok
end
section
/-! ===== THE ABSTRACT MACHINE: the instructions that the class, the reference and the law use, over a heap by places; am_run is a function; part 04 shows that the JVM does what it says ===== -/
/-- a cell: an object (class, fields), or an array (0 int, 1 byte, 2 boolean, 3 long, 4 stones, 5 int rows; length; contents); a reference is a place -/
abbrev am_C : Type := (Nat × List Value) ⊕ (Nat × Nat × ((Nat → Int32) ⊕ (Nat → Int64) ⊕ (Nat → Option Nat)))
/-- a heap: how many places are taken, how many slots, what lies there. Places 0 to 7: the script, SIXES, three Strings, their bytes: they are never written -/
abbrev am_H : Type := Nat × Nat × (Nat → am_C)
/-- an instruction, the pc behind it, two numbers that it needs -/
abbrev am_I : Type := Instr × Nat × Nat × Nat
/-- a method: its class, its locals, what it returns (0 nothing, 1 int, 2 boolean, 3 char, 4 long, 5 byte), its instructions -/
abbrev am_M : Type := Nat × Nat × Nat × List (Nat × am_I)
abbrev am_S : Type := Nat × List (Option Value) × List Value × am_H
abbrev am_O : Type := Option (am_S ⊕ (Option Value) ⊕ (Nat × List Value × am_S))
def am_at : List (Nat × am_I) → Nat → Option am_I
  | [], _ => none
  | q :: t, pc => bif Nat.beq q.1 pc then some q.2 else am_at t pc
def am_get : List (Option Value) → Nat → Option Value
  | [], _ => none
  | v :: _, 0 => v
  | _ :: t, n + 1 => am_get t n
def am_set : List (Option Value) → Nat → Option Value → List (Option Value)
  | [], _, _ => []
  | _ :: t, 0, v => v :: t
  | w :: t, n + 1, v => w :: am_set t n v
def am_isL : Option Value → Bool
  | some (.long _) => true
  | _ => false
def am_cut (ls : List (Option Value)) : Nat → List (Option Value)
  | 0 => ls
  | i + 1 => bif am_isL (am_get ls i) then am_set ls i none else ls
def am_st1 (ls : List (Option Value)) (i : Nat) (v : Value) : List (Option Value) := am_set (am_cut ls i) i (some v)
def am_st2 (ls : List (Option Value)) (i : Nat) (v : Value) : List (Option Value) := am_set (am_set (am_cut ls i) i (some v)) (i + 1) none
def am_ent0 : List Value → List (Option Value)
  | [] => []
  | .long x :: t => some (.long x) :: none :: am_ent0 t
  | .double _ :: t => none :: none :: am_ent0 t
  | v :: t => some v :: am_ent0 t
def am_pad : Nat → List (Option Value) → List (Option Value)
  | 0, _ => []
  | n + 1, [] => none :: am_pad n []
  | n + 1, v :: t => v :: am_pad n t
def am_ent (vs : List Value) (n : Nat) : List (Option Value) := am_pad n (am_ent0 vs)
def am_take : Nat → List Value → List Value → Option (List Value × List Value)
  | 0, acc, st => some (acc, st)
  | _ + 1, _, [] => none
  | n + 1, acc, v :: st => am_take n (v :: acc) st
def am_cat : List Value → Nat
  | [] => 0
  | .long _ :: t => 2 + am_cat t
  | .double _ :: t => 2 + am_cat t
  | _ :: t => 1 + am_cat t
def am_fit : Nat → Value → Bool
  | 0, .int _ => true
  | 1, .int x => x == 0 || x == 1
  | 2, .ref _ => true
  | 2, .null => true
  | _, _ => false
def am_cnd : ClassFile.Cond → Int32 → Int32 → Bool
  | .eq, x, y => decide (x = y)
  | .ne, x, y => decide (¬ x = y)
  | .lt, x, y => decide (x < y)
  | .ge, x, y => decide (y ≤ x)
  | .gt, x, y => decide (y < x)
  | .le, x, y => decide (x ≤ y)
def am_rt : Nat → Int32 → Bool
  | 1, _ => true
  | 2, x => x == 0 || x == 1
  | 3, x => decide (vp_nar .char x = x)
  | 5, x => decide (vp_nar .byte x = x)
  | _, _ => false
def am_ii (st : List Value) (k : Int32 → Int32 → List Value → am_O) : am_O := match st with
  | .int y :: .int x :: r => k x y r
  | _ => none
def am_i1 (st : List Value) (k : Int32 → List Value → am_O) : am_O := match st with
  | .int x :: r => k x r
  | _ => none
def am_ll (st : List Value) (k : Int64 → Int64 → List Value → am_O) : am_O := match st with
  | .long y :: .long x :: r => k x y r
  | _ => none
def am_l1 (st : List Value) (k : Int64 → List Value → am_O) : am_O := match st with
  | .long x :: r => k x r
  | _ => none
def am_r1 (st : List Value) (k : Nat → List Value → am_O) : am_O := match st with
  | .ref p :: r => k p r
  | _ => none
def am_ri (st : List Value) (k : Nat → Int32 → List Value → am_O) : am_O := match st with
  | .int j :: .ref p :: r => k p j r
  | _ => none
def am_cA (c : am_C) (ty : Nat) (k : Nat → (Nat → Int32) → am_O) : am_O := match c with
  | .inr (t, n, .inl f) => bif Nat.beq t ty then k n f else none
  | _ => none
def am_cL (c : am_C) (k : Nat → (Nat → Int64) → am_O) : am_O := match c with
  | .inr (t, n, .inr (.inl f)) => bif Nat.beq t 3 then k n f else none
  | _ => none
def am_cQ (c : am_C) (k : Nat → Nat → (Nat → Option Nat) → am_O) : am_O := match c with
  | .inr (t, n, .inr (.inr f)) => k t n f
  | _ => none
def am_cO (c : am_C) (k : Nat → List Value → am_O) : am_O := match c with
  | .inl (ci, fs) => k ci fs
  | _ => none
def am_ix (j : Int32) (n : Nat) (o : am_O) : am_O := if j < 0 ∨ n ≤ j.toNatClampNeg then none else o
def am_up (h : am_H) (p : Nat) (c : am_C) : am_H := (h.1, h.2.1, va_up h.2.2 p c)
def am_nw (h : am_H) (k : Nat) (c : am_C) : am_H := (h.1 + 1, h.2.1 + k, va_up h.2.2 h.1 c)
def am_z (ty n : Nat) : am_C := bif Nat.beq ty 3 then .inr (3, n, .inr (.inl (fun _ => 0))) else bif Nat.blt ty 3 then .inr (ty, n, .inl (fun _ => 0)) else .inr (ty, n, .inr (.inr (fun _ => none)))
def am_aty : ArrayType → Nat
  | .int => 0
  | .byte => 1
  | .boolean => 2
  | .long => 3
  | _ => 9
/-- the object q may lie in an array of the kind t -/
def am_elt (t : Nat) (c : am_C) : Bool := match t, c with
  | 4, .inl (6, _) => true
  | 5, .inr (0, _, .inl _) => true
  | _, _ => false
def am_do (P : Nat → am_M) (d L : Nat) (ret : Nat) (i : Instr) (pc nx a b : Nat) (ls : List (Option Value)) (st : List Value) (h : am_H) : am_O :=
  let go : List Value → am_O := fun st' => some (.inl (nx, ls, st', h))
  match i with
  | .aload _ | .aload_n _ => match am_get ls a with
    | some (.ref p) => go (.ref p :: st)
    | _ => none
  | .iload _ | .iload_n _ => match am_get ls a with
    | some (.int x) => go (.int x :: st)
    | _ => none
  | .lload _ | .lload_n _ => match am_get ls a with
    | some (.long x) => go (.long x :: st)
    | _ => none
  | .astore _ | .astore_n _ => am_r1 st fun p r => some (.inl (nx, am_st1 ls a (.ref p), r, h))
  | .istore _ | .istore_n _ => am_i1 st fun x r => some (.inl (nx, am_st1 ls a (.int x), r, h))
  | .lstore _ | .lstore_n _ => am_l1 st fun x r => some (.inl (nx, am_st2 ls a (.long x), r, h))
  | .iinc _ n => match am_get ls a with
    | some (.int x) => some (.inl (nx, am_st1 ls a (.int (x + Int32.ofInt n)), st, h))
    | _ => none
  | .iconst n => go (.int (Int32.ofInt n) :: st)
  | .bipush n => go (.int ((Int8.ofInt n).toInt32) :: st)
  | .sipush n => go (.int ((Int16.ofInt n).toInt32) :: st)
  | .ldc _ => bif Nat.beq a 0 then go (.int (Int32.ofNat b) :: st) else go (.ref b :: st)
  | .ldc_w _ => go (.int (Int32.ofNat b) :: st)
  | .ldc2_w _ => go (.long (Int64.ofNat b) :: st)
  | .lconst n => go (.long (Int64.ofNat n) :: st)
  | .iadd => am_ii st fun x y r => go (.int (x + y) :: r)
  | .isub => am_ii st fun x y r => go (.int (x - y) :: r)
  | .imul => am_ii st fun x y r => go (.int (x * y) :: r)
  | .idiv => am_ii st fun x y r => if y = 0 then none else go (.int (x / y) :: r)
  | .irem => am_ii st fun x y r => if y = 0 then none else go (.int (x - x / y * y) :: r)
  | .iand => am_ii st fun x y r => go (.int (x &&& y) :: r)
  | .ior => am_ii st fun x y r => go (.int (x ||| y) :: r)
  | .ixor => am_ii st fun x y r => go (.int (x ^^^ y) :: r)
  | .ishl => am_ii st fun x y r => go (.int (x <<< (y &&& 31)) :: r)
  | .ishr => am_ii st fun x y r => go (.int (x >>> (y &&& 31)) :: r)
  | .iushr => am_ii st fun x y r => go (.int ((x.toUInt32 >>> (y.toUInt32 &&& Int32.toUInt32 31)).toInt32) :: r)
  | .ineg => am_i1 st fun x r => go (.int (-x) :: r)
  | .ladd => am_ll st fun x y r => go (.long (x + y) :: r)
  | .lmul => am_ll st fun x y r => go (.long (x * y) :: r)
  | .ldiv => am_ll st fun x y r => if y = 0 then none else go (.long (x / y) :: r)
  | .lrem => am_ll st fun x y r => if y = 0 then none else go (.long (x - x / y * y) :: r)
  | .lor => am_ll st fun x y r => go (.long (x ||| y) :: r)
  | .lcmp => am_ll st fun x y r => go (.int (lg_cmp x y) :: r)
  | .lshl => am_i1 st fun y r => am_l1 r fun x r => go (.long (x <<< (y.toInt64 &&& 63)) :: r)
  | .i2l => am_i1 st fun x r => go (.long x.toInt64 :: r)
  | .l2i => am_l1 st fun x r => go (.int x.toInt32 :: r)
  | .i2b => am_i1 st fun x r => go (.int x.toInt8.toInt32 :: r)
  | .i2c => am_i1 st fun x r => go (.int (x.toUInt32 % 65536).toInt32 :: r)
  | .dup => match st with
    | .int x :: r => go (.int x :: .int x :: r)
    | .ref x :: r => go (.ref x :: .ref x :: r)
    | _ => none
  | .dup2 => am_ri st fun p j r => go (.int j :: .ref p :: .int j :: .ref p :: r)
  | .pop => am_i1 st fun _ r => go r
  | .goto _ => some (.inl (a, ls, st, h))
  | .ifCond c _ => am_i1 st fun x r => some (.inl (bif am_cnd c x 0 then a else nx, ls, r, h))
  | .if_icmp c _ => am_ii st fun x y r => some (.inl (bif am_cnd c x y then a else nx, ls, r, h))
  | .ifnonnull _ => match st with
    | .ref _ :: r => some (.inl (a, ls, r, h))
    | .null :: r => some (.inl (nx, ls, r, h))
    | _ => none
  | .tableswitch _ lo hi offs => am_i1 st fun x r => if x.toInt < lo ∨ hi < x.toInt then some (.inl (a, ls, r, h)) else
      match offs[(x.toInt - lo).toNat]? with
      | some off => if (pc : Int) + off < 0 then none else some (.inl (((pc : Int) + off).toNat, ls, r, h))
      | none => none
  | .iaload => am_ri st fun p j r => am_cA (h.2.2 p) 0 fun n f => am_ix j n (go (.int (f j.toNatClampNeg) :: r))
  | .baload => am_ri st fun p j r => am_cA (h.2.2 p) a fun n f => am_ix j n (go (.int (f j.toNatClampNeg) :: r))
  | .laload => am_ri st fun p j r => am_cL (h.2.2 p) fun n f => am_ix j n (go (.long (f j.toNatClampNeg) :: r))
  | .aaload => am_ri st fun p j r => am_cQ (h.2.2 p) fun t n f => bif Nat.beq t a then am_ix j n (go (va_rf (f j.toNatClampNeg) :: r)) else none
  | .iastore => am_i1 st fun x r => am_ri r fun p j r => am_cA (h.2.2 p) 0 fun n f => am_ix j n (if p < 8 then none else some (.inl (nx, ls, r, am_up h p (.inr (0, n, .inl (upd f j.toNatClampNeg x))))))
  | .bastore => am_i1 st fun x r => am_ri r fun p j r => am_cA (h.2.2 p) a fun n f => am_ix j n (if p < 8 then none else some (.inl (nx, ls, r, am_up h p (.inr (a, n, .inl (upd f j.toNatClampNeg (vp_nar (bif Nat.beq a 1 then .byte else .boolean) x)))))))
  | .lastore => am_l1 st fun x r => am_ri r fun p j r => am_cL (h.2.2 p) fun n f => am_ix j n (if p < 8 then none else some (.inl (nx, ls, r, am_up h p (.inr (3, n, .inr (.inl (vp_updL f j.toNatClampNeg x)))))))
  | .aastore => am_r1 st fun q r => am_ri r fun p j r => am_cQ (h.2.2 p) fun t n f => am_ix j n (if p < 8 ∨ q < 8 ∨ h.1 ≤ q then none else bif am_elt t (h.2.2 q) then some (.inl (nx, ls, r, am_up h p (.inr (t, n, .inr (.inr (va_up f j.toNatClampNeg (some q))))))) else none)
  | .arraylength => am_r1 st fun p r => match h.2.2 p with
    | .inr (t, n, _) => bif Nat.blt t 6 then go (.int (Int32.ofNat n) :: r) else none
    | _ => none
  | .newarray ty => am_i1 st fun x r => if x < 0 ∨ 1000000 < x.toNatClampNeg then none else some (.inl (nx, ls, .ref h.1 :: r, am_nw h x.toNatClampNeg (am_z (am_aty ty) x.toNatClampNeg)))
  | .anewarray _ => am_i1 st fun x r => if x < 0 ∨ 1000000 < x.toNatClampNeg then none else some (.inl (nx, ls, .ref h.1 :: r, am_nw h x.toNatClampNeg (.inr (a, x.toNatClampNeg, .inr (.inr (fun _ => none))))))
  | .new _ => some (.inl (nx, ls, .ref h.1 :: st, am_nw h (am_nf a) (.inl (a, am_df a))))
  | .getfield _ => am_r1 st fun p r => am_cO (h.2.2 p) fun ci fs => bif Nat.beq ci a then (match fs[b]? with
    | some v => go (v :: r)
    | none => none) else none
  | .putfield _ => match st with
    | v :: .ref p :: r => am_cO (h.2.2 p) fun ci fs => bif Nat.beq ci a && Nat.blt (b / 8) fs.length && am_fit (b % 4) v && Nat.ble 8 p then some (.inl (nx, ls, r, am_up h p (.inl (ci, fs.set (b / 8) v)))) else none
    | _ => none
  | .getstatic _ => bif Nat.beq a 0 then go (.ref 1 :: st) else go (.int 1 :: st)
  | .invokevirtual _ => match am_take (b + 1) [] st with
    | some (.ref p :: vs, r) => am_cO (h.2.2 p) fun ci _ => bif Nat.beq ci (P a).1 && Nat.ble (am_cat r) 8 then some (.inr (.inr (a, .ref p :: vs, nx, ls, r, h))) else none
    | _ => none
  | .invokespecial _ => bif Nat.beq a 999 then am_r1 st fun _ r => (bif Nat.ble 1 d && Nat.ble (am_cat r + 12) L then go r else none) else match am_take (b + 1) [] st with
    | some (.ref p :: vs, r) => bif Nat.ble (am_cat r) 8 then some (.inr (.inr (a, .ref p :: vs, nx, ls, r, h))) else none
    | _ => none
  | .invokestatic _ => bif Nat.beq a 998 then (match st with
      | .int n :: .int dp :: .ref q :: .int sp :: .ref p :: r => am_cA (h.2.2 p) 0 fun n0 f => am_cA (h.2.2 q) 0 fun n1 g =>
        if n < 0 ∨ dp < 0 ∨ sp < 0 ∨ n0 < sp.toNatClampNeg + n.toNatClampNeg ∨ n1 < dp.toNatClampNeg + n.toNatClampNeg ∨ p < 8 ∨ q < 8 ∨ d < 1 ∨ L < am_cat r + 40 then none
        else some (.inl (nx, ls, r, am_up h q (.inr (0, n1, .inl (va_cpy f g sp.toNatClampNeg dp.toNatClampNeg n.toNatClampNeg)))))
      | _ => none) else bif Nat.beq a 997 then (am_ii st fun x y r => bif Nat.ble 1 d && Nat.ble (am_cat r + 13) L then go (.int (if y < x then y else x) :: r) else none)
      else bif Nat.beq a 996 then (am_ii st fun x y r => bif Nat.ble 1 d && Nat.ble (am_cat r + 13) L then go (.int (if x < y then y else x) :: r) else none)
      else bif Nat.beq a 994 then (am_ii st fun x y r => if x < 0 ∨ ¬ x < y then none else bif Nat.ble 2 d && Nat.ble (am_cat r) 8 && Nat.ble 60 L then go r else none)
      else match am_take b [] st with
    | some (vs, r) => bif Nat.ble (am_cat r) 8 then some (.inr (.inr (a, vs, nx, ls, r, h))) else none
    | _ => none
  | .ireturn => match st with
    | [.int x] => bif am_rt ret x then some (.inr (.inl (some (.int x)))) else none
    | _ => none
  | .lreturn => match st with
    | [.long x] => bif Nat.beq ret 4 then some (.inr (.inl (some (.long x)))) else none
    | _ => none
  | .return_ => match st with
    | [] => bif Nat.beq ret 0 then some (.inr (.inl none)) else none
    | _ => none
  | _ => none
def am_step (P : Nat → am_M) (d L M : Nat) (c : am_S) : am_O := match am_at (P M).2.2.2 c.1 with
  | some (i, nx, a, b) => am_do P d L (P M).2.2.1 i c.1 nx a b c.2.1 c.2.2.1 c.2.2.2
  | none => none
/-- what a call costs of the locals -/
def am_lc (P : Nat → am_M) (y : Nat) : Nat := 8 + ((P y).2.1 + 11)
def am_run (P : Nat → am_M) : Nat → Nat → Nat → Nat → am_S → Option (Option Value × am_H)
  | 0, _, _, _, _ => none
  | n + 1, d, L, M, c => match am_step P d L M c with
    | none => none
    | some (.inl c') => am_run P n d L M c'
    | some (.inr (.inl r)) => some (r, c.2.2.2)
    | some (.inr (.inr (y, vs, c'))) => match d with
      | 0 => none
      | d' + 1 => if L < am_lc P y ∨ (P y).2.1 < (am_ent0 vs).length then none else
        match am_run P n d' (L - am_lc P y) y (0, am_ent vs (P y).2.1, [], c'.2.2.2) with
        | none => none
        | some (r, h) => am_run P n (d' + 1) L M (c'.1, c'.2.1, r.toList ++ c'.2.2.1, h)
theorem am_run_mono (P : Nat → am_M) : ∀ (n d L M : Nat) (c : am_S) (x : Option Value × am_H), am_run P n d L M c = some x → am_run P (n + 1) d L M c = some x := by
  intro n
  induction n with
  | zero => intro d L M c x h; simp [am_run] at h
  | succ n ih =>
    intro d L M c x h
    rw [am_run] at h ⊢
    cases hs : am_step P d L M c with
    | none => rw [hs] at h; simp at h
    | some o =>
      rw [hs] at h
      match o, h with
      | .inl c', h => exact ih _ _ _ _ _ h
      | .inr (.inl r), h => exact h
      | .inr (.inr (y, vs, c')), h =>
        cases d with
        | zero => simp at h
        | succ d' =>
          dsimp only at h ⊢
          split at h
          · cases h
          · rename_i hL
            rw [if_neg hL]
            cases hr : am_run P n d' (L - am_lc P y) y (0, am_ent vs (P y).2.1, [], c'.2.2.2) with
            | none => rw [hr] at h; simp at h
            | some q =>
              obtain ⟨r, h1⟩ := q
              rw [hr] at h
              rw [ih _ _ _ _ _ hr]
              exact ih _ _ _ _ _ h
theorem am_run_le (P : Nat → am_M) {n k d L M : Nat} {c : am_S} {x : Option Value × am_H} (h : am_run P n d L M c = some x) (hk : n ≤ k) : am_run P k d L M c = some x := by
  obtain ⟨j, rfl⟩ := Nat.le.dest hk
  induction j with
  | zero => exact h
  | succ j ih => exact am_run_mono P _ _ _ _ _ _ (ih (Nat.le_add_right _ _))
/-- from this frame on the method returns, and Q holds of its answer and of the heap -/
def AW (P : Nat → am_M) (d L M pc : Nat) (ls : List (Option Value)) (st : List Value) (h : am_H) (Q : Option Value → am_H → Prop) : Prop := ∃ n r h', am_run P n d L M (pc, ls, st, h) = some (r, h') ∧ Q r h'
/-- a call of method y returns, and Q holds of its answer and of the heap -/
def AC (P : Nat → am_M) (d L y : Nat) (vs : List Value) (h : am_H) (Q : Option Value → am_H → Prop) : Prop := AW P d L y 0 (am_ent vs (P y).2.1) [] h Q
section AMR
variable {P : Nat → am_M} {d L M pc : Nat} {ls : List (Option Value)} {st : List Value} {h : am_H} {Q : Option Value → am_H → Prop}
theorem AW.step {pc' : Nat} {ls' : List (Option Value)} {st' : List Value} {h' : am_H} (hs : am_step P d L M (pc, ls, st, h) = some (.inl (pc', ls', st', h'))) (k : AW P d L M pc' ls' st' h' Q) : AW P d L M pc ls st h Q := by
  obtain ⟨n, r, h1, e, q⟩ := k
  refine ⟨n + 1, r, h1, ?_, q⟩
  rw [am_run, hs]
  exact e
theorem AW.ret {r : Option Value} (hs : am_step P d L M (pc, ls, st, h) = some (.inr (.inl r))) (q : Q r h) : AW P d L M pc ls st h Q := by
  refine ⟨1, r, h, ?_, q⟩
  rw [am_run, hs]
theorem AW.call {y pc' : Nat} {vs : List Value} {ls' : List (Option Value)} {st' : List Value} {h' : am_H} {Q1 : Option Value → am_H → Prop} (hs : am_step P (d + 1) L M (pc, ls, st, h) = some (.inr (.inr (y, vs, pc', ls', st', h')))) (hL : am_lc P y ≤ L) (hA : (am_ent0 vs).length ≤ (P y).2.1) (hc : AC P d (L - am_lc P y) y vs h' Q1)
    (k : ∀ r h1, Q1 r h1 → AW P (d + 1) L M pc' ls' (r.toList ++ st') h1 Q) : AW P (d + 1) L M pc ls st h Q := by
  obtain ⟨n1, r1, h1, e1, q1⟩ := hc
  obtain ⟨n2, r2, h2, e2, q2⟩ := k r1 h1 q1
  refine ⟨max n1 n2 + 1, r2, h2, ?_, q2⟩
  rw [am_run, hs]
  dsimp only
  rw [if_neg (show ¬ (L < am_lc P y ∨ (P y).2.1 < (am_ent0 vs).length) by omega), am_run_le P e1 (Nat.le_max_left n1 n2)]
  exact am_run_le P e2 (Nat.le_max_right n1 n2)
theorem AW.mono {Q' : Option Value → am_H → Prop} (k : AW P d L M pc ls st h Q) (hq : ∀ r h1, Q r h1 → Q' r h1) : AW P d L M pc ls st h Q' := by
  obtain ⟨n, r, h1, e, q⟩ := k
  exact ⟨n, r, h1, e, hq r h1 q⟩
theorem AC.mono {vs : List Value} {y : Nat} {Q' : Option Value → am_H → Prop} (k : AC P d L y vs h Q) (hq : ∀ r h1, Q r h1 → Q' r h1) : AC P d L y vs h Q' := AW.mono k hq
end AMR
def am_nth {α : Type} : List α → Nat → α → α
  | [], _, d => d
  | x :: _, 0, _ => x
  | _ :: t, n + 1, d => am_nth t n d
theorem am_ii_inv {st : List Value} {k : Int32 → Int32 → List Value → am_O} {o : am_S ⊕ (Option Value) ⊕ (Nat × List Value × am_S)} (h : am_ii st k = some o) : ∃ x y r, st = .int y :: .int x :: r ∧ k x y r = some o := by
  unfold am_ii at h
  split at h
  · exact ⟨_, _, _, rfl, h⟩
  · cases h
theorem am_i1_inv {st : List Value} {k : Int32 → List Value → am_O} {o : am_S ⊕ (Option Value) ⊕ (Nat × List Value × am_S)} (h : am_i1 st k = some o) : ∃ x r, st = .int x :: r ∧ k x r = some o := by
  unfold am_i1 at h
  split at h
  · exact ⟨_, _, rfl, h⟩
  · cases h
theorem am_ll_inv {st : List Value} {k : Int64 → Int64 → List Value → am_O} {o : am_S ⊕ (Option Value) ⊕ (Nat × List Value × am_S)} (h : am_ll st k = some o) : ∃ x y r, st = .long y :: .long x :: r ∧ k x y r = some o := by
  unfold am_ll at h
  split at h
  · exact ⟨_, _, _, rfl, h⟩
  · cases h
theorem am_l1_inv {st : List Value} {k : Int64 → List Value → am_O} {o : am_S ⊕ (Option Value) ⊕ (Nat × List Value × am_S)} (h : am_l1 st k = some o) : ∃ x r, st = .long x :: r ∧ k x r = some o := by
  unfold am_l1 at h
  split at h
  · exact ⟨_, _, rfl, h⟩
  · cases h
theorem am_r1_inv {st : List Value} {k : Nat → List Value → am_O} {o : am_S ⊕ (Option Value) ⊕ (Nat × List Value × am_S)} (h : am_r1 st k = some o) : ∃ x r, st = .ref x :: r ∧ k x r = some o := by
  unfold am_r1 at h
  split at h
  · exact ⟨_, _, rfl, h⟩
  · cases h
theorem am_ri_inv {st : List Value} {k : Nat → Int32 → List Value → am_O} {o : am_S ⊕ (Option Value) ⊕ (Nat × List Value × am_S)} (h : am_ri st k = some o) : ∃ q j r, st = .int j :: .ref q :: r ∧ k q j r = some o := by
  unfold am_ri at h
  split at h
  · exact ⟨_, _, _, rfl, h⟩
  · cases h
theorem am_cA_inv {x : am_C} {ty : Nat} {k : Nat → (Nat → Int32) → am_O} {o : am_S ⊕ (Option Value) ⊕ (Nat × List Value × am_S)} (h : am_cA x ty k = some o) : ∃ n f, x = .inr (ty, n, .inl f) ∧ k n f = some o := by
  unfold am_cA at h
  split at h
  · rename_i t n f
    cases e : Nat.beq t ty with
    | true => rw [e] at h; have := Nat.eq_of_beq_eq_true e; subst this; exact ⟨n, f, rfl, h⟩
    | false => rw [e] at h; cases h
  · cases h
theorem am_cL_inv {x : am_C} {k : Nat → (Nat → Int64) → am_O} {o : am_S ⊕ (Option Value) ⊕ (Nat × List Value × am_S)} (h : am_cL x k = some o) : ∃ n f, x = .inr (3, n, .inr (.inl f)) ∧ k n f = some o := by
  unfold am_cL at h
  split at h
  · rename_i t n f
    cases e : Nat.beq t 3 with
    | true => rw [e] at h; have := Nat.eq_of_beq_eq_true e; subst this; exact ⟨n, f, rfl, h⟩
    | false => rw [e] at h; cases h
  · cases h
theorem am_cQ_inv {x : am_C} {k : Nat → Nat → (Nat → Option Nat) → am_O} {o : am_S ⊕ (Option Value) ⊕ (Nat × List Value × am_S)} (h : am_cQ x k = some o) : ∃ t n f, x = .inr (t, n, .inr (.inr f)) ∧ k t n f = some o := by
  unfold am_cQ at h
  split at h
  · exact ⟨_, _, _, rfl, h⟩
  · cases h
theorem am_cO_inv {x : am_C} {k : Nat → List Value → am_O} {o : am_S ⊕ (Option Value) ⊕ (Nat × List Value × am_S)} (h : am_cO x k = some o) : ∃ t f, x = .inl (t, f) ∧ k t f = some o := by
  unfold am_cO at h
  split at h
  · exact ⟨_, _, rfl, h⟩
  · cases h
theorem am_ix_inv {j : Int32} {n : Nat} {o : am_O} {x : am_S ⊕ (Option Value) ⊕ (Nat × List Value × am_S)} (h : am_ix j n o = some x) : vp_in j n ∧ o = some x := by
  unfold am_ix at h
  split at h
  · cases h
  · rename_i e
    exact ⟨e, h⟩
theorem am_bif_inv {b : Bool} {o : am_O} {x : am_S ⊕ (Option Value) ⊕ (Nat × List Value × am_S)} (h : (bif b then o else none) = some x) : b = true ∧ o = some x := by
  cases b
  · cases h
  · exact ⟨rfl, h⟩
def am_nil : am_C := .inr (9, 0, .inl (fun _ => 0))
def am_sl : List Int32 := [1, 6, 36, 216, 1296, 7776, 46656, 279936, 1679616, 10077696, 60466176]
/-- the bytes of the three Strings -/
def am_by : List (List Int32) := [[114, 111, 119, 32, 102, 97, 99, 101, 115, 32, 107, 105, 99, 107, 32, 100, 114, 105, 102, 116, 32, 114, 117, 110, 115, 32, 99, 97, 114, 115, 32, 115, 116, 111, 110, 101, 32, 102, 114, 105, 101, 110, 100, 32, 108, 105, 118, 101, 115, 32, 116, 97, 107, 101, 115, 32, 115, 101, 101, 100, 32, 98, 121, 32, 116, 117, 114, 110, 32, 105, 102, 32, 116, 104, 101, 110, 32, 101, 108, 115, 101, 32, 97, 108, 111, 110, 103, 32, 97, 99, 114, 111, 115, 115, 32, 102, 97, 99, 101, 32, 115, 111, 114, 116, 32, 119, 104, 105, 99, 104, 32, 104, 97, 114, 100, 32, 115, 101, 99, 111, 110, 100, 32], [59, 61, 43, 45, 42, 47, 60, 40, 41], [116, 99, 115, 112, 103, 119, 104]]
def am_im (Ls : Nat) (xs : Nat → Int32) : Nat → am_C
  | 0 => .inr (0, Ls, .inl xs)
  | 1 => .inr (0, 11, .inl (fun j => am_sl.getD j 0))
  | 2 => .inl (15, [.ref 5, .int 0])
  | 3 => .inl (15, [.ref 6, .int 0])
  | 4 => .inl (15, [.ref 7, .int 0])
  | 5 => .inr (1, 123, .inl (fun j => (am_by.getD 0 []).getD j 0))
  | 6 => .inr (1, 9, .inl (fun j => (am_by.getD 1 []).getD j 0))
  | _ => .inr (1, 7, .inl (fun j => (am_by.getD 2 []).getD j 0))
def am_tx : Nat → String
  | 0 => "row faces kick drift runs cars stone friend lives takes seed by turn if then else along across face sort which hard second "
  | 1 => ";=+-*/<()"
  | _ => "tcspgwh"
end
section
/-! ===== the methods' instructions, by program out of the Statement ===== -/
set_option maxRecDepth 20000 in
/-- 0: StoneHome$Forecast.<init>(LStoneHome$Table;LStoneHome$Street;)V -/
def at_X0_init : List (Nat × am_I) := [(0, .aload_n 0, 1, 0, 0), (1, .invokespecial 3, 4, 999, 0), (4, .aload_n 0, 5, 0, 0), (5, .sipush 384, 8, 0, 0), (8, .newarray .int, 10, 0, 0), (10, .putfield 9, 13, 0, 18), (13, .aload_n 0, 14, 0, 0), (14, .sipush 384, 17, 0, 0),
  (17, .newarray .int, 19, 0, 0), (19, .putfield 15, 22, 0, 26), (22, .aload_n 0, 23, 0, 0), (23, .iconst 0, 24, 0, 0), (24, .putfield 18, 27, 0, 33), (27, .aload_n 0, 28, 0, 0), (28, .iconst 0, 29, 0, 0), (29, .putfield 22, 32, 0, 40),
  (32, .aload_n 0, 33, 0, 0), (33, .iconst 0, 34, 0, 0), (34, .putfield 26, 37, 0, 48), (37, .aload_n 0, 38, 0, 0), (38, .iconst (-1), 39, 0, 0), (39, .putfield 29, 42, 0, 56), (42, .aload_n 0, 43, 0, 0), (43, .iconst (-1), 44, 0, 0),
  (44, .putfield 32, 47, 0, 64), (47, .aload_n 0, 48, 0, 0), (48, .aload_n 1, 49, 1, 0), (49, .putfield 35, 52, 0, 6), (52, .aload_n 0, 53, 0, 0), (53, .aload_n 2, 54, 2, 0), (54, .putfield 39, 57, 0, 10), (57, .return_, 58, 0, 0)]
set_option maxRecDepth 20000 in
/-- 1: StoneHome$Forecast.follow(LStoneHome$Street;)V -/
def at_X0_follow : List (Nat × am_I) := [(0, .aload_n 0, 1, 0, 0), (1, .aload_n 1, 2, 1, 0), (2, .putfield 39, 5, 0, 10), (5, .aload_n 0, 6, 0, 0), (6, .iconst 0, 7, 0, 0), (7, .putfield 18, 10, 0, 33), (10, .return_, 11, 0, 0)]
set_option maxRecDepth 20000 in
/-- 2: StoneHome$Forecast.look(IIII)V -/
def at_X0_look : List (Nat × am_I) := [(0, .aload_n 0, 1, 0, 0), (1, .getfield 35, 4, 0, 0), (4, .iload_n 1, 5, 1, 0), (5, .invokevirtual 43, 8, 113, 1), (8, .istore 5, 10, 5, 0), (10, .aload_n 0, 11, 0, 0), (11, .getfield 18, 14, 0, 4), (14, .ifCond .eq 38, 17, 52, 0),
  (17, .aload_n 0, 18, 0, 0), (18, .getfield 22, 21, 0, 5), (21, .iload 5, 23, 5, 0), (23, .if_icmp .ne 29, 26, 52, 0), (26, .aload_n 0, 27, 0, 0), (27, .getfield 26, 30, 0, 6), (30, .iload_n 2, 31, 2, 0), (31, .if_icmp .ne 21, 34, 52, 0),
  (34, .aload_n 0, 35, 0, 0), (35, .getfield 29, 38, 0, 7), (38, .iload_n 3, 39, 3, 0), (39, .if_icmp .ne 13, 42, 52, 0), (42, .aload_n 0, 43, 0, 0), (43, .getfield 32, 46, 0, 8), (46, .iload 4, 48, 4, 0), (48, .if_icmp .ne 4, 51, 52, 0),
  (51, .return_, 52, 0, 0), (52, .aload_n 0, 53, 0, 0), (53, .iconst 1, 54, 0, 0), (54, .putfield 18, 57, 0, 33), (57, .aload_n 0, 58, 0, 0), (58, .iload 5, 60, 5, 0), (60, .putfield 22, 63, 0, 40), (63, .aload_n 0, 64, 0, 0),
  (64, .iload_n 2, 65, 2, 0), (65, .putfield 26, 68, 0, 48), (68, .aload_n 0, 69, 0, 0), (69, .iload_n 3, 70, 3, 0), (70, .putfield 29, 73, 0, 56), (73, .aload_n 0, 74, 0, 0), (74, .iload 4, 76, 4, 0), (76, .putfield 32, 79, 0, 64),
  (79, .iconst 0, 80, 0, 0), (80, .istore 6, 82, 6, 0), (82, .iload 6, 84, 6, 0), (84, .iload_n 2, 85, 2, 0), (85, .if_icmp .gt 37, 88, 122, 0), (88, .aload_n 0, 89, 0, 0), (89, .invokevirtual 49, 92, 3, 0), (92, .iload 6, 94, 6, 0),
  (94, .ifCond .le 16, 97, 110, 0), (97, .aload_n 0, 98, 0, 0), (98, .getfield 35, 101, 0, 0), (101, .iload_n 1, 102, 1, 0), (102, .iload_n 2, 103, 2, 0), (103, .iadd, 104, 0, 0), (104, .iload 6, 106, 6, 0), (106, .isub, 107, 0, 0),
  (107, .invokevirtual 52, 110, 114, 1), (110, .aload_n 0, 111, 0, 0), (111, .iload 6, 113, 6, 0), (113, .invokevirtual 56, 116, 4, 1), (116, .iinc 6 1, 119, 6, 0), (119, .goto (-37), 122, 82, 0), (122, .return_, 123, 0, 0)]
set_option maxRecDepth 20000 in
/-- 3: StoneHome$Forecast.swap()V -/
def at_X0_swap : List (Nat × am_I) := [(0, .aload_n 0, 1, 0, 0), (1, .getfield 15, 4, 0, 3), (4, .astore_n 1, 5, 1, 0), (5, .aload_n 0, 6, 0, 0), (6, .aload_n 0, 7, 0, 0), (7, .getfield 9, 10, 0, 2), (10, .putfield 15, 13, 0, 26), (13, .aload_n 0, 14, 0, 0),
  (14, .aload_n 1, 15, 1, 0), (15, .putfield 9, 18, 0, 18), (18, .return_, 19, 0, 0)]
set_option maxRecDepth 20000 in
/-- 4: StoneHome$Forecast.fillLayer(I)V -/
def at_X0_fillLayer : List (Nat × am_I) := [(0, .aload_n 0, 1, 0, 0), (1, .getfield 39, 4, 0, 1), (4, .getfield 72, 7, 7, 13), (7, .iconst 1, 8, 0, 0), (8, .iadd, 9, 0, 0), (9, .iconst 3, 10, 0, 0), (10, .invokestatic 75, 13, 997, 2), (13, .istore_n 2, 14, 2, 0),
  (14, .iconst 0, 15, 0, 0), (15, .istore_n 3, 16, 3, 0), (16, .iload_n 3, 17, 3, 0), (17, .aload_n 0, 18, 0, 0), (18, .getfield 35, 21, 0, 0), (21, .getfield 80, 24, 8, 6), (24, .if_icmp .ge 98, 27, 122, 0), (27, .iload_n 3, 28, 3, 0),
  (28, .bipush 96, 30, 0, 0), (30, .if_icmp .ge 92, 33, 122, 0), (33, .aload_n 0, 34, 0, 0), (34, .getfield 35, 37, 0, 0), (37, .getfield 83, 40, 8, 4), (40, .iload_n 3, 41, 3, 0), (41, .iaload, 42, 0, 0), (42, .istore 4, 44, 4, 0),
  (44, .iload_n 3, 45, 3, 0), (45, .aload_n 0, 46, 0, 0), (46, .getfield 35, 49, 0, 0), (49, .getfield 86, 52, 8, 5), (52, .if_icmp .ge 11, 55, 63, 0), (55, .iload_n 1, 56, 1, 0), (56, .ifCond .le 7, 59, 63, 0), (59, .iconst 1, 60, 0, 0),
  (60, .goto 4, 63, 64, 0), (63, .iconst 0, 64, 0, 0), (64, .istore 5, 66, 5, 0), (66, .iconst 0, 67, 0, 0), (67, .istore 6, 69, 6, 0), (69, .iload 6, 71, 6, 0), (71, .iload_n 2, 72, 2, 0), (72, .if_icmp .gt 44, 75, 116, 0),
  (75, .aload_n 0, 76, 0, 0), (76, .getfield 9, 79, 0, 2), (79, .iload 4, 81, 4, 0), (81, .iconst 4, 82, 0, 0), (82, .imul, 83, 0, 0), (83, .iload 6, 85, 6, 0), (85, .iadd, 86, 0, 0), (86, .iload 5, 88, 5, 0),
  (88, .ifCond .eq 14, 91, 102, 0), (91, .aload_n 0, 92, 0, 0), (92, .iload 4, 94, 4, 0), (94, .iload 6, 96, 6, 0), (96, .invokevirtual 89, 99, 5, 2), (99, .goto 10, 102, 109, 0), (102, .aload_n 0, 103, 0, 0), (103, .iload 4, 105, 4, 0),
  (105, .iload_n 1, 106, 1, 0), (106, .invokevirtual 92, 109, 9, 2), (109, .iastore, 110, 0, 0), (110, .iinc 6 1, 113, 6, 0), (113, .goto (-44), 116, 69, 0), (116, .iinc 3 1, 119, 3, 0), (119, .goto (-103), 122, 16, 0), (122, .return_, 123, 0, 0)]
set_option maxRecDepth 20000 in
/-- 5: StoneHome$Forecast.chanceThere(II)I -/
def at_X0_chanceThere : List (Nat × am_I) := [(0, .aload_n 0, 1, 0, 0), (1, .getfield 29, 4, 0, 7), (4, .iconst (-1), 5, 0, 0), (5, .if_icmp .eq 43, 8, 48, 0), (8, .aload_n 0, 9, 0, 0), (9, .getfield 39, 12, 0, 1), (12, .iload_n 1, 13, 1, 0), (13, .iconst 3, 14, 0, 0),
  (14, .idiv, 15, 0, 0), (15, .aload_n 0, 16, 0, 0), (16, .getfield 29, 19, 0, 7), (19, .invokevirtual 102, 22, 97, 2), (22, .istore_n 3, 23, 3, 0), (23, .aload_n 0, 24, 0, 0), (24, .iload_n 3, 25, 3, 0), (25, .ifCond .eq 10, 28, 35, 0),
  (28, .aload_n 0, 29, 0, 0), (29, .getfield 29, 32, 0, 7), (32, .goto 10, 35, 42, 0), (35, .aload_n 0, 36, 0, 0), (36, .getfield 39, 39, 0, 1), (39, .getfield 63, 42, 7, 4), (42, .iload_n 1, 43, 1, 0), (43, .iload_n 2, 44, 2, 0),
  (44, .invokevirtual 68, 47, 6, 3), (47, .ireturn, 48, 0, 0), (48, .iconst 0, 49, 0, 0), (49, .istore_n 3, 50, 3, 0), (50, .iconst 0, 51, 0, 0), (51, .istore 4, 53, 4, 0), (53, .iload 4, 55, 4, 0), (55, .aload_n 0, 56, 0, 0),
  (56, .getfield 39, 59, 0, 1), (59, .getfield 63, 62, 7, 4), (62, .if_icmp .gt 22, 65, 84, 0), (65, .iload_n 3, 66, 3, 0), (66, .aload_n 0, 67, 0, 0), (67, .iload 4, 69, 4, 0), (69, .iload_n 1, 70, 1, 0), (70, .iload_n 2, 71, 2, 0),
  (71, .invokevirtual 68, 74, 6, 3), (74, .invokestatic 106, 77, 996, 2), (77, .istore_n 3, 78, 3, 0), (78, .iinc 4 1, 81, 4, 0), (81, .goto (-28), 84, 53, 0), (84, .iload_n 3, 85, 3, 0), (85, .ireturn, 86, 0, 0)]
set_option maxRecDepth 20000 in
/-- 6: StoneHome$Forecast.chanceBy(III)I -/
def at_X0_chanceBy : List (Nat × am_I) := [(0, .aload_n 0, 1, 0, 0), (1, .getfield 39, 4, 0, 1), (4, .iload_n 2, 5, 2, 0), (5, .iconst 3, 6, 0, 0), (6, .idiv, 7, 0, 0), (7, .iload_n 1, 8, 1, 0), (8, .invokevirtual 109, 11, 106, 2), (11, .ifCond .ne 5, 14, 16, 0),
  (14, .iconst (-1), 15, 0, 0), (15, .ireturn, 16, 0, 0), (16, .aload_n 0, 17, 0, 0), (17, .iload_n 2, 18, 2, 0), (18, .iload_n 3, 19, 3, 0), (19, .iconst 1, 20, 0, 0), (20, .isub, 21, 0, 0), (21, .invokevirtual 112, 24, 7, 2),
  (24, .istore 4, 26, 4, 0), (26, .iconst 0, 27, 0, 0), (27, .istore 5, 29, 5, 0), (29, .aload_n 0, 30, 0, 0), (30, .getfield 39, 33, 0, 1), (33, .iload_n 1, 34, 1, 0), (34, .invokevirtual 115, 37, 102, 1), (37, .istore 6, 39, 6, 0),
  (39, .aload_n 0, 40, 0, 0), (40, .getfield 39, 43, 0, 1), (43, .iload_n 1, 44, 1, 0), (44, .invokevirtual 118, 47, 101, 1), (47, .istore 7, 49, 7, 0), (49, .iload 7, 51, 7, 0), (51, .iload 6, 53, 6, 0), (53, .if_icmp .ge 54, 56, 107, 0),
  (56, .aload_n 0, 57, 0, 0), (57, .getfield 35, 60, 0, 0), (60, .iload_n 2, 61, 2, 0), (61, .iload 7, 63, 7, 0), (63, .invokevirtual 121, 66, 115, 2), (66, .istore 8, 68, 8, 0), (68, .iload 5, 70, 5, 0), (70, .aload_n 0, 71, 0, 0),
  (71, .getfield 39, 74, 0, 1), (74, .iload 7, 76, 7, 0), (76, .invokevirtual 124, 79, 103, 1), (79, .iload 8, 81, 8, 0), (81, .iconst (-1), 82, 0, 0), (82, .if_icmp .ne 8, 85, 90, 0), (85, .iload 4, 87, 4, 0), (87, .goto 10, 90, 97, 0),
  (90, .aload_n 0, 91, 0, 0), (91, .iload 8, 93, 8, 0), (93, .iload_n 3, 94, 3, 0), (94, .invokevirtual 112, 97, 7, 2), (97, .imul, 98, 0, 0), (98, .iadd, 99, 0, 0), (99, .istore 5, 101, 5, 0), (101, .iinc 7 1, 104, 7, 0),
  (104, .goto (-55), 107, 49, 0), (107, .iload 5, 109, 5, 0), (109, .ireturn, 110, 0, 0)]
set_option maxRecDepth 20000 in
/-- 7: StoneHome$Forecast.laterChance(II)I -/
def at_X0_laterChance : List (Nat × am_I) := [(0, .iload_n 1, 1, 1, 0), (1, .iload_n 2, 2, 2, 0), (2, .invokestatic 59, 5, 8, 2), (5, .istore_n 3, 6, 3, 0), (6, .iload_n 3, 7, 3, 0), (7, .iconst (-1), 8, 0, 0), (8, .if_icmp .ne 7, 11, 15, 0), (11, .iconst 0, 12, 0, 0),
  (12, .goto 9, 15, 21, 0), (15, .aload_n 0, 16, 0, 0), (16, .getfield 15, 19, 0, 3), (19, .iload_n 3, 20, 3, 0), (20, .iaload, 21, 0, 0), (21, .ireturn, 22, 0, 0)]
set_option maxRecDepth 20000 in
/-- 8: StoneHome$Forecast.placeFor(II)I -/
def at_X0_placeFor : List (Nat × am_I) := [(0, .iload_n 0, 1, 0, 0), (1, .ifCond .lt 22, 4, 23, 0), (4, .iload_n 0, 5, 0, 0), (5, .bipush 96, 7, 0, 0), (7, .if_icmp .ge 16, 10, 23, 0), (10, .iload_n 1, 11, 1, 0), (11, .ifCond .lt 12, 14, 23, 0), (14, .iload_n 1, 15, 1, 0),
  (15, .iconst 4, 16, 0, 0), (16, .if_icmp .ge 7, 19, 23, 0), (19, .iconst 1, 20, 0, 0), (20, .goto 4, 23, 24, 0), (23, .iconst 0, 24, 0, 0), (24, .istore_n 2, 25, 2, 0), (25, .iload_n 2, 26, 2, 0), (26, .ifCond .eq 11, 29, 37, 0),
  (29, .iload_n 0, 30, 0, 0), (30, .iconst 4, 31, 0, 0), (31, .imul, 32, 0, 0), (32, .iload_n 1, 33, 1, 0), (33, .iadd, 34, 0, 0), (34, .goto 4, 37, 38, 0), (37, .iconst (-1), 38, 0, 0), (38, .ireturn, 39, 0, 0)]
set_option maxRecDepth 20000 in
/-- 9: StoneHome$Forecast.chanceAtRest(II)I -/
def at_X0_chanceAtRest : List (Nat × am_I) := [(0, .aload_n 0, 1, 0, 0), (1, .getfield 32, 4, 0, 8), (4, .iconst (-1), 5, 0, 0), (5, .if_icmp .ne 14, 8, 19, 0), (8, .aload_n 0, 9, 0, 0), (9, .getfield 39, 12, 0, 1), (12, .iload_n 1, 13, 1, 0), (13, .invokevirtual 95, 16, 90, 1),
  (16, .goto 18, 19, 34, 0), (19, .iload_n 1, 20, 1, 0), (20, .iconst 3, 21, 0, 0), (21, .idiv, 22, 0, 0), (22, .aload_n 0, 23, 0, 0), (23, .getfield 32, 26, 0, 8), (26, .if_icmp .ne 7, 29, 33, 0), (29, .iconst 1, 30, 0, 0),
  (30, .goto 4, 33, 34, 0), (33, .iconst 0, 34, 0, 0), (34, .istore_n 3, 35, 3, 0), (35, .iload_n 3, 36, 3, 0), (36, .ifCond .eq 10, 39, 46, 0), (39, .iload_n 2, 40, 2, 0), (40, .invokestatic 99, 43, 156, 1), (43, .goto 4, 46, 47, 0),
  (46, .iconst 0, 47, 0, 0), (47, .ireturn, 48, 0, 0)]
set_option maxRecDepth 20000 in
/-- 10: StoneHome$Forecast.chance(II)I -/
def at_X0_chance : List (Nat × am_I) := [(0, .iload_n 1, 1, 1, 0), (1, .iload_n 2, 2, 2, 0), (2, .invokestatic 59, 5, 8, 2), (5, .istore_n 3, 6, 3, 0), (6, .iload_n 3, 7, 3, 0), (7, .iconst (-1), 8, 0, 0), (8, .if_icmp .ne 7, 11, 15, 0), (11, .iconst 0, 12, 0, 0),
  (12, .goto 9, 15, 21, 0), (15, .aload_n 0, 16, 0, 0), (16, .getfield 9, 19, 0, 2), (19, .iload_n 3, 20, 3, 0), (20, .iaload, 21, 0, 0), (21, .ireturn, 22, 0, 0)]
set_option maxRecDepth 20000 in
/-- 11: StoneHome$Forecast.bestAction(III)I -/
def at_X0_bestAction : List (Nat × am_I) := [(0, .aload_n 0, 1, 0, 0), (1, .getfield 35, 4, 0, 0), (4, .iload_n 1, 5, 1, 0), (5, .invokevirtual 52, 8, 114, 1), (8, .iconst (-1), 9, 0, 0), (9, .istore 4, 11, 4, 0), (11, .aload_n 0, 12, 0, 0), (12, .getfield 39, 15, 0, 1),
  (15, .getfield 63, 18, 7, 4), (18, .istore 5, 20, 5, 0), (20, .iconst 0, 21, 0, 0), (21, .istore 6, 23, 6, 0), (23, .iload 6, 25, 6, 0), (25, .aload_n 0, 26, 0, 0), (26, .getfield 39, 29, 0, 1), (29, .getfield 63, 32, 7, 4),
  (32, .if_icmp .gt 34, 35, 66, 0), (35, .aload_n 0, 36, 0, 0), (36, .iload 6, 38, 6, 0), (38, .iload_n 2, 39, 2, 0), (39, .iload_n 3, 40, 3, 0), (40, .invokevirtual 68, 43, 6, 3), (43, .istore 7, 45, 7, 0), (45, .iload 7, 47, 7, 0),
  (47, .iload 4, 49, 4, 0), (49, .if_icmp .le 11, 52, 60, 0), (52, .iload 7, 54, 7, 0), (54, .istore 4, 56, 4, 0), (56, .iload 6, 58, 6, 0), (58, .istore 5, 60, 5, 0), (60, .iinc 6 1, 63, 6, 0), (63, .goto (-40), 66, 23, 0),
  (66, .iload 5, 68, 5, 0), (68, .ireturn, 69, 0, 0)]
set_option maxRecDepth 20000 in
/-- 12: StoneHome$Laws.<init>()V -/
def at_X1_init : List (Nat × am_I) := [(0, .aload_n 0, 1, 0, 0), (1, .invokespecial 3, 4, 999, 0), (4, .aload_n 0, 5, 0, 0), (5, .sipush 400, 8, 0, 0), (8, .newarray .int, 10, 0, 0), (10, .putfield 9, 13, 1, 6), (13, .aload_n 0, 14, 0, 0), (14, .iconst 0, 15, 0, 0),
  (15, .putfield 15, 18, 1, 8), (18, .aload_n 0, 19, 0, 0), (19, .iconst 3, 20, 0, 0), (20, .newarray .int, 22, 0, 0), (22, .putfield 19, 25, 1, 22), (25, .aload_n 0, 26, 0, 0), (26, .iconst 0, 27, 0, 0), (27, .putfield 22, 30, 1, 24),
  (30, .aload_n 0, 31, 0, 0), (31, .bipush 32, 33, 0, 0), (33, .newarray .int, 35, 0, 0), (35, .putfield 25, 38, 1, 38), (38, .aload_n 0, 39, 0, 0), (39, .iconst 0, 40, 0, 0), (40, .putfield 28, 43, 1, 40), (43, .aload_n 0, 44, 0, 0),
  (44, .bipush 7, 46, 0, 0), (46, .newarray .int, 48, 0, 0), (48, .putfield 31, 51, 1, 54), (51, .aload_n 0, 52, 0, 0), (52, .bipush 32, 54, 0, 0), (54, .newarray .int, 56, 0, 0), (56, .putfield 34, 59, 1, 62), (59, .return_, 60, 0, 0)]
set_option maxRecDepth 20000 in
/-- 13: StoneHome$Laws.clear()V -/
def at_X1_clear : List (Nat × am_I) := [(0, .aload_n 0, 1, 0, 0), (1, .iconst 0, 2, 0, 0), (2, .putfield 15, 5, 1, 8), (5, .aload_n 0, 6, 0, 0), (6, .iconst 0, 7, 0, 0), (7, .putfield 22, 10, 1, 24), (10, .aload_n 0, 11, 0, 0), (11, .getfield 19, 14, 1, 2),
  (14, .iconst (-1), 15, 0, 0), (15, .invokestatic 37, 18, 293, 2), (18, .return_, 19, 0, 0)]
set_option maxRecDepth 20000 in
/-- 14: StoneHome$Laws.start(I)V -/
def at_X1_start : List (Nat × am_I) := [(0, .iload_n 1, 1, 1, 0), (1, .ifCond .lt 41, 4, 42, 0), (4, .iload_n 1, 5, 1, 0), (5, .aload_n 0, 6, 0, 0), (6, .getfield 19, 9, 1, 2), (9, .arraylength, 10, 0, 0), (10, .if_icmp .ge 32, 13, 42, 0), (13, .aload_n 0, 14, 0, 0),
  (14, .getfield 19, 17, 1, 2), (17, .iload_n 1, 18, 1, 0), (18, .aload_n 0, 19, 0, 0), (19, .getfield 15, 22, 1, 1), (22, .iastore, 23, 0, 0), (23, .aload_n 0, 24, 0, 0), (24, .dup, 25, 0, 0), (25, .getfield 22, 28, 1, 3),
  (28, .iconst 1, 29, 0, 0), (29, .iload_n 1, 30, 1, 0), (30, .ishl, 31, 0, 0), (31, .iconst (-1), 32, 0, 0), (32, .ixor, 33, 0, 0), (33, .iand, 34, 0, 0), (34, .putfield 22, 37, 1, 24), (37, .aload_n 0, 38, 0, 0),
  (38, .iconst 0, 39, 0, 0), (39, .putfield 28, 42, 1, 40), (42, .return_, 43, 0, 0)]
set_option maxRecDepth 20000 in
/-- 15: StoneHome$Laws.push(I)V -/
def at_X1_push : List (Nat × am_I) := [(0, .aload_n 0, 1, 0, 0), (1, .getfield 28, 4, 1, 5), (4, .bipush 32, 6, 0, 0), (6, .if_icmp .ge 23, 9, 29, 0), (9, .aload_n 0, 10, 0, 0), (10, .getfield 25, 13, 1, 4), (13, .aload_n 0, 14, 0, 0), (14, .getfield 28, 17, 1, 5),
  (17, .iload_n 1, 18, 1, 0), (18, .iastore, 19, 0, 0), (19, .aload_n 0, 20, 0, 0), (20, .dup, 21, 0, 0), (21, .getfield 28, 24, 1, 5), (24, .iconst 1, 25, 0, 0), (25, .iadd, 26, 0, 0), (26, .putfield 28, 29, 1, 40),
  (29, .return_, 30, 0, 0)]
set_option maxRecDepth 20000 in
/-- 16: StoneHome$Laws.add(II)I -/
def at_X1_add : List (Nat × am_I) := [(0, .aload_n 0, 1, 0, 0), (1, .getfield 15, 4, 1, 1), (4, .aload_n 0, 5, 0, 0), (5, .getfield 9, 8, 1, 0), (8, .arraylength, 9, 0, 0), (9, .if_icmp .ge 27, 12, 36, 0), (12, .aload_n 0, 13, 0, 0), (13, .getfield 9, 16, 1, 0),
  (16, .aload_n 0, 17, 0, 0), (17, .getfield 15, 20, 1, 1), (20, .iload_n 2, 21, 2, 0), (21, .iconst 3, 22, 0, 0), (22, .ishl, 23, 0, 0), (23, .iload_n 1, 24, 1, 0), (24, .ior, 25, 0, 0), (25, .iastore, 26, 0, 0),
  (26, .aload_n 0, 27, 0, 0), (27, .dup, 28, 0, 0), (28, .getfield 15, 31, 1, 1), (31, .iconst 1, 32, 0, 0), (32, .iadd, 33, 0, 0), (33, .putfield 15, 36, 1, 8), (36, .aload_n 0, 37, 0, 0), (37, .getfield 15, 40, 1, 1),
  (40, .iconst 1, 41, 0, 0), (41, .isub, 42, 0, 0), (42, .ireturn, 43, 0, 0)]
set_option maxRecDepth 20000 in
/-- 17: StoneHome$Laws.markTimed(I)V -/
def at_X1_markTimed : List (Nat × am_I) := [(0, .aload_n 0, 1, 0, 0), (1, .dup, 2, 0, 0), (2, .getfield 22, 5, 1, 3), (5, .iconst 1, 6, 0, 0), (6, .iload_n 1, 7, 1, 0), (7, .ishl, 8, 0, 0), (8, .ior, 9, 0, 0), (9, .putfield 22, 12, 1, 24),
  (12, .return_, 13, 0, 0)]
set_option maxRecDepth 20000 in
/-- 18: StoneHome$Laws.close()V -/
def at_X1_close : List (Nat × am_I) := [(0, .iconst 0, 1, 0, 0), (1, .istore_n 1, 2, 1, 0), (2, .iload_n 1, 3, 1, 0), (3, .bipush 32, 5, 0, 0), (5, .if_icmp .ge 43, 8, 48, 0), (8, .aload_n 0, 9, 0, 0), (9, .invokevirtual 43, 12, 19, 0), (12, .bipush 8, 14, 0, 0),
  (14, .if_icmp .eq 34, 17, 48, 0), (17, .aload_n 0, 18, 0, 0), (18, .dup, 19, 0, 0), (19, .getfield 28, 22, 1, 5), (22, .iconst 1, 23, 0, 0), (23, .isub, 24, 0, 0), (24, .putfield 28, 27, 1, 40), (27, .aload_n 0, 28, 0, 0),
  (28, .aload_n 0, 29, 0, 0), (29, .getfield 25, 32, 1, 4), (32, .aload_n 0, 33, 0, 0), (33, .getfield 28, 36, 1, 5), (36, .iaload, 37, 0, 0), (37, .iconst 0, 38, 0, 0), (38, .invokevirtual 47, 41, 16, 2), (41, .pop, 42, 0, 0),
  (42, .iinc 1 1, 45, 1, 0), (45, .goto (-43), 48, 2, 0), (48, .aload_n 0, 49, 0, 0), (49, .iconst 0, 50, 0, 0), (50, .aload_n 0, 51, 0, 0), (51, .getfield 28, 54, 1, 5), (54, .iconst 1, 55, 0, 0), (55, .isub, 56, 0, 0),
  (56, .invokestatic 55, 59, 996, 2), (59, .putfield 28, 62, 1, 40), (62, .return_, 63, 0, 0)]
set_option maxRecDepth 20000 in
/-- 19: StoneHome$Laws.lastWaiting()I -/
def at_X1_lastWaiting : List (Nat × am_I) := [(0, .aload_n 0, 1, 0, 0), (1, .getfield 28, 4, 1, 5), (4, .ifCond .le 17, 7, 21, 0), (7, .aload_n 0, 8, 0, 0), (8, .getfield 25, 11, 1, 4), (11, .aload_n 0, 12, 0, 0), (12, .getfield 28, 15, 1, 5), (15, .iconst 1, 16, 0, 0),
  (16, .isub, 17, 0, 0), (17, .iaload, 18, 0, 0), (18, .goto 5, 21, 23, 0), (21, .bipush 8, 23, 0, 0), (23, .ireturn, 24, 0, 0)]
set_option maxRecDepth 20000 in
/-- 20: StoneHome$Laws.addOperator(I)V -/
def at_X1_addOperator : List (Nat × am_I) := [(0, .iconst 0, 1, 0, 0), (1, .istore_n 2, 2, 2, 0), (2, .iload_n 2, 3, 2, 0), (3, .bipush 32, 5, 0, 0), (5, .if_icmp .ge 56, 8, 61, 0), (8, .aload_n 0, 9, 0, 0), (9, .invokevirtual 43, 12, 19, 0), (12, .bipush 8, 14, 0, 0),
  (14, .if_icmp .eq 47, 17, 61, 0), (17, .aload_n 0, 18, 0, 0), (18, .invokevirtual 43, 21, 19, 0), (21, .iconst 4, 22, 0, 0), (22, .if_icmp .ge 8, 25, 30, 0), (25, .iload_n 1, 26, 1, 0), (26, .iconst 4, 27, 0, 0), (27, .if_icmp .ge 34, 30, 61, 0),
  (30, .aload_n 0, 31, 0, 0), (31, .dup, 32, 0, 0), (32, .getfield 28, 35, 1, 5), (35, .iconst 1, 36, 0, 0), (36, .isub, 37, 0, 0), (37, .putfield 28, 40, 1, 40), (40, .aload_n 0, 41, 0, 0), (41, .aload_n 0, 42, 0, 0),
  (42, .getfield 25, 45, 1, 4), (45, .aload_n 0, 46, 0, 0), (46, .getfield 28, 49, 1, 5), (49, .iaload, 50, 0, 0), (50, .iconst 0, 51, 0, 0), (51, .invokevirtual 47, 54, 16, 2), (54, .pop, 55, 0, 0), (55, .iinc 2 1, 58, 2, 0),
  (58, .goto (-56), 61, 2, 0), (61, .aload_n 0, 62, 0, 0), (62, .iload_n 1, 63, 1, 0), (63, .invokevirtual 51, 66, 15, 1), (66, .return_, 67, 0, 0)]
set_option maxRecDepth 20000 in
/-- 21: StoneHome$Laws.aim(I)V -/
def at_X1_aim : List (Nat × am_I) := [(0, .iload_n 1, 1, 1, 0), (1, .ifCond .lt 26, 4, 27, 0), (4, .iload_n 1, 5, 1, 0), (5, .aload_n 0, 6, 0, 0), (6, .getfield 15, 9, 1, 1), (9, .if_icmp .ge 18, 12, 27, 0), (12, .aload_n 0, 13, 0, 0), (13, .getfield 9, 16, 1, 0),
  (16, .iload_n 1, 17, 1, 0), (17, .aload_n 0, 18, 0, 0), (18, .getfield 15, 21, 1, 1), (21, .iconst 3, 22, 0, 0), (22, .ishl, 23, 0, 0), (23, .bipush 6, 25, 0, 0), (25, .ior, 26, 0, 0), (26, .iastore, 27, 0, 0),
  (27, .return_, 28, 0, 0)]
set_option maxRecDepth 20000 in
/-- 22: StoneHome$Laws.setWhere(IIII)V -/
def at_X1_setWhere : List (Nat × am_I) := [(0, .aload_n 0, 1, 0, 0), (1, .getfield 31, 4, 1, 6), (4, .iconst 0, 5, 0, 0), (5, .iload_n 1, 6, 1, 0), (6, .iastore, 7, 0, 0), (7, .aload_n 0, 8, 0, 0), (8, .getfield 31, 11, 1, 6), (11, .iconst 1, 12, 0, 0),
  (12, .iload_n 2, 13, 2, 0), (13, .iastore, 14, 0, 0), (14, .aload_n 0, 15, 0, 0), (15, .getfield 31, 18, 1, 6), (18, .iconst 2, 19, 0, 0), (19, .iload_n 3, 20, 3, 0), (20, .iastore, 21, 0, 0), (21, .aload_n 0, 22, 0, 0),
  (22, .getfield 31, 25, 1, 6), (25, .iconst 3, 26, 0, 0), (26, .iload 4, 28, 4, 0), (28, .iastore, 29, 0, 0), (29, .return_, 30, 0, 0)]
set_option maxRecDepth 20000 in
/-- 23: StoneHome$Laws.setHow(III)V -/
def at_X1_setHow : List (Nat × am_I) := [(0, .aload_n 0, 1, 0, 0), (1, .getfield 31, 4, 1, 6), (4, .iconst 4, 5, 0, 0), (5, .iload_n 1, 6, 1, 0), (6, .iastore, 7, 0, 0), (7, .aload_n 0, 8, 0, 0), (8, .getfield 31, 11, 1, 6), (11, .iconst 5, 12, 0, 0),
  (12, .iload_n 2, 13, 2, 0), (13, .iastore, 14, 0, 0), (14, .aload_n 0, 15, 0, 0), (15, .getfield 31, 18, 1, 6), (18, .bipush 6, 20, 0, 0), (20, .iload_n 3, 21, 3, 0), (21, .iastore, 22, 0, 0), (22, .return_, 23, 0, 0)]
set_option maxRecDepth 20000 in
/-- 24: StoneHome$Laws.value(I)I -/
def at_X1_value : List (Nat × am_I) := [(0, .iload_n 1, 1, 1, 0), (1, .ifCond .lt 21, 4, 22, 0), (4, .iload_n 1, 5, 1, 0), (5, .aload_n 0, 6, 0, 0), (6, .getfield 19, 9, 1, 2), (9, .arraylength, 10, 0, 0), (10, .if_icmp .ge 12, 13, 22, 0), (13, .aload_n 0, 14, 0, 0),
  (14, .getfield 19, 17, 1, 2), (17, .iload_n 1, 18, 1, 0), (18, .iaload, 19, 0, 0), (19, .goto 4, 22, 23, 0), (22, .iconst (-1), 23, 0, 0), (23, .istore_n 2, 24, 2, 0), (24, .iload_n 2, 25, 2, 0), (25, .ifCond .ge 5, 28, 30, 0),
  (28, .iconst 0, 29, 0, 0), (29, .ireturn, 30, 0, 0), (30, .iconst 0, 31, 0, 0), (31, .istore_n 3, 32, 3, 0), (32, .iload_n 2, 33, 2, 0), (33, .istore 4, 35, 4, 0), (35, .iload 4, 37, 4, 0), (37, .aload_n 0, 38, 0, 0),
  (38, .getfield 15, 41, 1, 1), (41, .if_icmp .ge 193, 44, 234, 0), (44, .aload_n 0, 45, 0, 0), (45, .getfield 9, 48, 1, 0), (48, .iload 4, 50, 4, 0), (50, .iaload, 51, 0, 0), (51, .bipush 7, 53, 0, 0), (53, .iand, 54, 0, 0),
  (54, .istore 5, 56, 5, 0), (56, .aload_n 0, 57, 0, 0), (57, .getfield 9, 60, 1, 0), (60, .iload 4, 62, 4, 0), (62, .iaload, 63, 0, 0), (63, .iconst 3, 64, 0, 0), (64, .ishr, 65, 0, 0), (65, .istore 6, 67, 6, 0),
  (67, .iload 5, 69, 5, 0), (69, .bipush 7, 71, 0, 0), (71, .if_icmp .ne 10, 74, 81, 0), (74, .aload_n 0, 75, 0, 0), (75, .getfield 34, 78, 1, 7), (78, .iconst 0, 79, 0, 0), (79, .iaload, 80, 0, 0), (80, .ireturn, 81, 0, 0),
  (81, .iload 5, 83, 5, 0), (83, .ifCond .eq 9, 86, 92, 0), (86, .iload 5, 88, 5, 0), (88, .iconst 1, 89, 0, 0), (89, .if_icmp .ne 39, 92, 128, 0), (92, .iload_n 3, 93, 3, 0), (93, .bipush 32, 95, 0, 0), (95, .if_icmp .lt 5, 98, 100, 0),
  (98, .iconst 0, 99, 0, 0), (99, .ireturn, 100, 0, 0), (100, .aload_n 0, 101, 0, 0), (101, .getfield 34, 104, 1, 7), (104, .iload_n 3, 105, 3, 0), (105, .iload 5, 107, 5, 0), (107, .ifCond .ne 8, 110, 115, 0), (110, .iload 6, 112, 6, 0),
  (112, .goto 9, 115, 121, 0), (115, .aload_n 0, 116, 0, 0), (116, .iload 6, 118, 6, 0), (118, .invokevirtual 60, 121, 25, 1), (121, .iastore, 122, 0, 0), (122, .iinc 3 1, 125, 3, 0), (125, .goto 103, 128, 228, 0), (128, .iload_n 3, 129, 3, 0),
  (129, .iconst 2, 130, 0, 0), (130, .if_icmp .lt 20, 133, 150, 0), (133, .iload 5, 135, 5, 0), (135, .iconst 5, 136, 0, 0), (136, .if_icmp .ne 16, 139, 152, 0), (139, .aload_n 0, 140, 0, 0), (140, .getfield 34, 143, 1, 7), (143, .iload_n 3, 144, 3, 0),
  (144, .iconst 1, 145, 0, 0), (145, .isub, 146, 0, 0), (146, .iaload, 147, 0, 0), (147, .ifCond .ne 5, 150, 152, 0), (150, .iconst 0, 151, 0, 0), (151, .ireturn, 152, 0, 0), (152, .iload 5, 154, 5, 0), (154, .bipush 6, 156, 0, 0),
  (156, .if_icmp .ne 42, 159, 198, 0), (159, .iinc 3 (-2), 162, 3, 0), (162, .aload_n 0, 163, 0, 0), (163, .getfield 34, 166, 1, 7), (166, .iload_n 3, 167, 3, 0), (167, .iaload, 168, 0, 0), (168, .aload_n 0, 169, 0, 0), (169, .getfield 34, 172, 1, 7),
  (172, .iload_n 3, 173, 3, 0), (173, .iconst 1, 174, 0, 0), (174, .iadd, 175, 0, 0), (175, .iaload, 176, 0, 0), (176, .if_icmp .ge 8, 179, 184, 0), (179, .iload 4, 181, 4, 0), (181, .goto 12, 184, 193, 0), (184, .iload 4, 186, 4, 0),
  (186, .iload 6, 188, 6, 0), (188, .iconst 1, 189, 0, 0), (189, .isub, 190, 0, 0), (190, .invokestatic 55, 193, 996, 2), (193, .istore 4, 195, 4, 0), (195, .goto 33, 198, 228, 0), (198, .iinc 3 (-1), 201, 3, 0), (201, .aload_n 0, 202, 0, 0),
  (202, .getfield 34, 205, 1, 7), (205, .iload_n 3, 206, 3, 0), (206, .iconst 1, 207, 0, 0), (207, .isub, 208, 0, 0), (208, .iload 5, 210, 5, 0), (210, .aload_n 0, 211, 0, 0), (211, .getfield 34, 214, 1, 7), (214, .iload_n 3, 215, 3, 0),
  (215, .iconst 1, 216, 0, 0), (216, .isub, 217, 0, 0), (217, .iaload, 218, 0, 0), (218, .aload_n 0, 219, 0, 0), (219, .getfield 34, 222, 1, 7), (222, .iload_n 3, 223, 3, 0), (223, .iaload, 224, 0, 0), (224, .invokestatic 64, 227, 26, 3),
  (227, .iastore, 228, 0, 0), (228, .iinc 4 1, 231, 4, 0), (231, .goto (-196), 234, 35, 0), (234, .iconst 0, 235, 0, 0), (235, .ireturn, 236, 0, 0)]
set_option maxRecDepth 20000 in
/-- 25: StoneHome$Laws.factAt(I)I -/
def at_X1_factAt : List (Nat × am_I) := [(0, .iload_n 1, 1, 1, 0), (1, .ifCond .lt 21, 4, 22, 0), (4, .iload_n 1, 5, 1, 0), (5, .aload_n 0, 6, 0, 0), (6, .getfield 31, 9, 1, 6), (9, .arraylength, 10, 0, 0), (10, .if_icmp .ge 12, 13, 22, 0), (13, .aload_n 0, 14, 0, 0),
  (14, .getfield 31, 17, 1, 6), (17, .iload_n 1, 18, 1, 0), (18, .iaload, 19, 0, 0), (19, .goto 4, 22, 23, 0), (22, .iconst 0, 23, 0, 0), (23, .ireturn, 24, 0, 0)]
set_option maxRecDepth 20000 in
/-- 26: StoneHome$Laws.joined(III)I -/
def at_X1_joined : List (Nat × am_I) := [(0, .iload_n 0, 1, 0, 0), (1, .tableswitch 39 2 4 #[27, 31, 35], 28, 40, 0), (28, .iload_n 1, 29, 1, 0), (29, .iload_n 2, 30, 2, 0), (30, .iadd, 31, 0, 0), (31, .ireturn, 32, 0, 0), (32, .iload_n 1, 33, 1, 0), (33, .iload_n 2, 34, 2, 0),
  (34, .isub, 35, 0, 0), (35, .ireturn, 36, 0, 0), (36, .iload_n 1, 37, 1, 0), (37, .iload_n 2, 38, 2, 0), (38, .imul, 39, 0, 0), (39, .ireturn, 40, 0, 0), (40, .iload_n 2, 41, 2, 0), (41, .ifCond .ne 7, 44, 48, 0),
  (44, .iconst 0, 45, 0, 0), (45, .goto 6, 48, 51, 0), (48, .iload_n 1, 49, 1, 0), (49, .iload_n 2, 50, 2, 0), (50, .idiv, 51, 0, 0), (51, .ireturn, 52, 0, 0)]
set_option maxRecDepth 20000 in
/-- 27: StoneHome$Laws.areTimed()Z -/
def at_X1_areTimed : List (Nat × am_I) := [(0, .aload_n 0, 1, 0, 0), (1, .getfield 22, 4, 1, 3), (4, .ifCond .eq 7, 7, 11, 0), (7, .iconst 1, 8, 0, 0), (8, .goto 4, 11, 12, 0), (11, .iconst 0, 12, 0, 0), (12, .ireturn, 13, 0, 0)]
set_option maxRecDepth 20000 in
/-- 28: StoneHome$Past.<init>()V -/
def at_X2_init : List (Nat × am_I) := [(0, .aload_n 0, 1, 0, 0), (1, .invokespecial 3, 4, 999, 0), (4, .aload_n 0, 5, 0, 0), (5, .bipush 50, 7, 0, 0), (7, .anewarray 9, 10, 4, 0), (10, .putfield 11, 13, 2, 6), (13, .aload_n 0, 14, 0, 0), (14, .iconst 0, 15, 0, 0),
  (15, .putfield 17, 18, 2, 8), (18, .aload_n 0, 19, 0, 0), (19, .iconst 0, 20, 0, 0), (20, .putfield 21, 23, 2, 16), (23, .iconst 0, 24, 0, 0), (24, .istore_n 1, 25, 1, 0), (25, .iload_n 1, 26, 1, 0), (26, .aload_n 0, 27, 0, 0),
  (27, .getfield 11, 30, 2, 0), (30, .arraylength, 31, 0, 0), (31, .if_icmp .ge 22, 34, 53, 0), (34, .aload_n 0, 35, 0, 0), (35, .getfield 11, 38, 2, 0), (38, .iload_n 1, 39, 1, 0), (39, .new 9, 42, 6, 0), (42, .dup, 43, 0, 0),
  (43, .invokespecial 24, 46, 80, 0), (46, .aastore, 47, 0, 0), (47, .iinc 1 1, 50, 1, 0), (50, .goto (-25), 53, 25, 0), (53, .return_, 54, 0, 0)]
set_option maxRecDepth 20000 in
/-- 29: StoneHome$Past.clear()V -/
def at_X2_clear : List (Nat × am_I) := [(0, .aload_n 0, 1, 0, 0), (1, .iconst 0, 2, 0, 0), (2, .putfield 17, 5, 2, 8), (5, .aload_n 0, 6, 0, 0), (6, .iconst 0, 7, 0, 0), (7, .putfield 21, 10, 2, 16), (10, .return_, 11, 0, 0)]
set_option maxRecDepth 20000 in
/-- 30: StoneHome$Past.keep(LStoneHome$Stone;)V -/
def at_X2_keep : List (Nat × am_I) := [(0, .aload_n 0, 1, 0, 0), (1, .getfield 11, 4, 2, 0), (4, .aload_n 0, 5, 0, 0), (5, .getfield 17, 8, 2, 1), (8, .aaload, 9, 4, 0), (9, .aload_n 1, 10, 1, 0), (10, .invokevirtual 25, 13, 82, 1), (13, .aload_n 0, 14, 0, 0),
  (14, .aload_n 0, 15, 0, 0), (15, .getfield 17, 18, 2, 1), (18, .iconst 1, 19, 0, 0), (19, .iadd, 20, 0, 0), (20, .bipush 50, 22, 0, 0), (22, .irem, 23, 0, 0), (23, .putfield 17, 26, 2, 8), (26, .aload_n 0, 27, 0, 0),
  (27, .aload_n 0, 28, 0, 0), (28, .getfield 21, 31, 2, 2), (31, .iconst 1, 32, 0, 0), (32, .iadd, 33, 0, 0), (33, .bipush 50, 35, 0, 0), (35, .invokestatic 29, 38, 997, 2), (38, .putfield 21, 41, 2, 16), (41, .return_, 42, 0, 0)]
set_option maxRecDepth 20000 in
/-- 31: StoneHome$Past.takeBack(LStoneHome$Stone;)Z -/
def at_X2_takeBack : List (Nat × am_I) := [(0, .aload_n 0, 1, 0, 0), (1, .getfield 21, 4, 2, 2), (4, .ifCond .ne 5, 7, 9, 0), (7, .iconst 0, 8, 0, 0), (8, .ireturn, 9, 0, 0), (9, .aload_n 0, 10, 0, 0), (10, .aload_n 0, 11, 0, 0), (11, .getfield 17, 14, 2, 1),
  (14, .bipush 50, 16, 0, 0), (16, .iadd, 17, 0, 0), (17, .iconst 1, 18, 0, 0), (18, .isub, 19, 0, 0), (19, .bipush 50, 21, 0, 0), (21, .irem, 22, 0, 0), (22, .putfield 17, 25, 2, 8), (25, .aload_n 0, 26, 0, 0),
  (26, .dup, 27, 0, 0), (27, .getfield 21, 30, 2, 2), (30, .iconst 1, 31, 0, 0), (31, .isub, 32, 0, 0), (32, .putfield 21, 35, 2, 16), (35, .aload_n 1, 36, 1, 0), (36, .aload_n 0, 37, 0, 0), (37, .getfield 11, 40, 2, 0),
  (40, .aload_n 0, 41, 0, 0), (41, .getfield 17, 44, 2, 1), (44, .aaload, 45, 4, 0), (45, .invokevirtual 25, 48, 82, 1), (48, .iconst 1, 49, 0, 0), (49, .ireturn, 50, 0, 0)]
set_option maxRecDepth 20000 in
/-- 32: StoneHome$Race.<init>(LStoneHome$Table;LStoneHome$Street;)V -/
def at_X3_init : List (Nat × am_I) := [(0, .aload_n 0, 1, 0, 0), (1, .invokespecial 3, 4, 999, 0), (4, .aload_n 0, 5, 0, 0), (5, .sipush 9312, 8, 0, 0), (8, .newarray .int, 10, 0, 0), (10, .putfield 11, 13, 3, 22), (13, .aload_n 0, 14, 0, 0), (14, .bipush 97, 16, 0, 0),
  (16, .newarray .int, 18, 0, 0), (18, .putfield 15, 21, 3, 30), (21, .aload_n 0, 22, 0, 0), (22, .bipush 96, 24, 0, 0), (24, .newarray .int, 26, 0, 0), (26, .putfield 18, 29, 3, 38), (29, .aload_n 0, 30, 0, 0), (30, .bipush 96, 32, 0, 0),
  (32, .newarray .int, 34, 0, 0), (34, .putfield 21, 37, 3, 46), (37, .aload_n 0, 38, 0, 0), (38, .aload_n 1, 39, 1, 0), (39, .putfield 24, 42, 3, 6), (42, .aload_n 0, 43, 0, 0), (43, .aload_n 2, 44, 2, 0), (44, .putfield 28, 47, 3, 10),
  (47, .return_, 48, 0, 0)]
set_option maxRecDepth 20000 in
/-- 33: StoneHome$Race.follow(LStoneHome$Street;)V -/
def at_X3_follow : List (Nat × am_I) := [(0, .aload_n 0, 1, 0, 0), (1, .aload_n 1, 2, 1, 0), (2, .putfield 28, 5, 3, 10), (5, .return_, 6, 0, 0)]
set_option maxRecDepth 20000 in
/-- 34: StoneHome$Race.chance(IIII)I -/
def at_X3_chance : List (Nat × am_I) := [(0, .aload_n 0, 1, 0, 0), (1, .getfield 28, 4, 3, 1), (4, .iload 4, 6, 4, 0), (6, .invokevirtual 32, 9, 90, 1), (9, .ifCond .ne 25, 12, 34, 0), (12, .iload_n 3, 13, 3, 0), (13, .ifCond .lt 21, 16, 34, 0), (16, .iload_n 3, 17, 3, 0),
  (17, .bipush 96, 19, 0, 0), (19, .if_icmp .ge 15, 22, 34, 0), (22, .iload 4, 24, 4, 0), (24, .ifCond .lt 10, 27, 34, 0), (27, .iload 4, 29, 4, 0), (29, .bipush 96, 31, 0, 0), (31, .if_icmp .lt 5, 34, 36, 0), (34, .iconst 0, 35, 0, 0),
  (35, .ireturn, 36, 0, 0), (36, .aload_n 0, 37, 0, 0), (37, .aload_n 0, 38, 0, 0), (38, .getfield 18, 41, 3, 4), (41, .iload_n 3, 42, 3, 0), (42, .iload_n 1, 43, 1, 0), (43, .iload_n 2, 44, 2, 0), (44, .iconst 2, 45, 0, 0),
  (45, .idiv, 46, 0, 0), (46, .invokevirtual 38, 49, 35, 4), (49, .aload_n 0, 50, 0, 0), (50, .aload_n 0, 51, 0, 0), (51, .getfield 21, 54, 3, 5), (54, .iload 4, 56, 4, 0), (56, .iload_n 1, 57, 1, 0), (57, .iconst 1, 58, 0, 0),
  (58, .iadd, 59, 0, 0), (59, .iload_n 2, 60, 2, 0), (60, .iconst 2, 61, 0, 0), (61, .idiv, 62, 0, 0), (62, .invokevirtual 38, 65, 35, 4), (65, .iconst 0, 66, 0, 0), (66, .istore 5, 68, 5, 0), (68, .iload 5, 70, 5, 0),
  (70, .iload_n 2, 71, 2, 0), (71, .if_icmp .ge 56, 74, 127, 0), (74, .iload_n 2, 75, 2, 0), (75, .iconst 1, 76, 0, 0), (76, .isub, 77, 0, 0), (77, .iload 5, 79, 5, 0), (79, .isub, 80, 0, 0), (80, .istore 6, 82, 6, 0),
  (82, .aload_n 0, 83, 0, 0), (83, .getfield 24, 86, 3, 0), (86, .iload_n 1, 87, 1, 0), (87, .iload 6, 89, 6, 0), (89, .iadd, 90, 0, 0), (90, .invokevirtual 42, 93, 114, 1), (93, .iload 6, 95, 6, 0), (95, .iconst 2, 96, 0, 0),
  (96, .irem, 97, 0, 0), (97, .ifCond .ne 16, 100, 113, 0), (100, .aload_n 0, 101, 0, 0), (101, .iload 6, 103, 6, 0), (103, .iconst 2, 104, 0, 0), (104, .idiv, 105, 0, 0), (105, .iload 5, 107, 5, 0), (107, .invokevirtual 48, 110, 37, 2),
  (110, .goto 11, 113, 121, 0), (113, .aload_n 0, 114, 0, 0), (114, .iload 6, 116, 6, 0), (116, .iconst 2, 117, 0, 0), (117, .idiv, 118, 0, 0), (118, .invokevirtual 52, 121, 40, 1), (121, .iinc 5 1, 124, 5, 0), (124, .goto (-56), 127, 68, 0),
  (127, .aload_n 0, 128, 0, 0), (128, .getfield 11, 131, 3, 2), (131, .iload_n 3, 132, 3, 0), (132, .bipush 97, 134, 0, 0), (134, .imul, 135, 0, 0), (135, .iload 4, 137, 4, 0), (137, .iadd, 138, 0, 0), (138, .iaload, 139, 0, 0),
  (139, .ireturn, 140, 0, 0)]
set_option maxRecDepth 20000 in
/-- 35: StoneHome$Race.reach([IIII)V -/
def at_X3_reach : List (Nat × am_I) := [(0, .aload_n 1, 1, 1, 0), (1, .iconst 3, 2, 0, 0), (2, .invokestatic 55, 5, 293, 2), (5, .aload_n 1, 6, 1, 0), (6, .iload_n 2, 7, 2, 0), (7, .iconst 0, 8, 0, 0), (8, .iastore, 9, 0, 0), (9, .iconst 0, 10, 0, 0),
  (10, .istore 5, 12, 5, 0), (12, .iload 5, 14, 5, 0), (14, .iload 4, 16, 4, 0), (16, .if_icmp .ge 98, 19, 114, 0), (19, .aload_n 0, 20, 0, 0), (20, .getfield 24, 23, 3, 0), (23, .iload_n 3, 24, 3, 0), (24, .iconst 2, 25, 0, 0),
  (25, .iload 5, 27, 5, 0), (27, .imul, 28, 0, 0), (28, .iadd, 29, 0, 0), (29, .invokevirtual 42, 32, 114, 1), (32, .iconst 0, 33, 0, 0), (33, .istore 6, 35, 6, 0), (35, .iload 6, 37, 6, 0), (37, .aload_n 0, 38, 0, 0),
  (38, .getfield 24, 41, 3, 0), (41, .getfield 61, 44, 8, 5), (44, .if_icmp .ge 64, 47, 108, 0), (47, .aload_n 0, 48, 0, 0), (48, .getfield 24, 51, 3, 0), (51, .getfield 65, 54, 8, 4), (54, .iload 6, 56, 6, 0), (56, .iaload, 57, 0, 0),
  (57, .istore 7, 59, 7, 0), (59, .iconst 0, 60, 0, 0), (60, .istore 8, 62, 8, 0), (62, .iload 8, 64, 8, 0), (64, .aload_n 0, 65, 0, 0), (65, .getfield 28, 68, 3, 1), (68, .getfield 68, 71, 7, 4), (71, .if_icmp .gt 31, 74, 102, 0),
  (74, .aload_n 1, 75, 1, 0), (75, .iload 7, 77, 7, 0), (77, .iaload, 78, 0, 0), (78, .iload 5, 80, 5, 0), (80, .if_icmp .gt 22, 83, 102, 0), (83, .aload_n 0, 84, 0, 0), (84, .iload 8, 86, 8, 0), (86, .iload 7, 88, 7, 0),
  (88, .aload_n 1, 89, 1, 0), (89, .iload 5, 91, 5, 0), (91, .iconst 1, 92, 0, 0), (92, .iadd, 93, 0, 0), (93, .invokevirtual 71, 96, 36, 4), (96, .iinc 8 1, 99, 8, 0), (99, .goto (-37), 102, 62, 0), (102, .iinc 6 1, 105, 6, 0),
  (105, .goto (-70), 108, 35, 0), (108, .iinc 5 1, 111, 5, 0), (111, .goto (-99), 114, 12, 0), (114, .return_, 115, 0, 0)]
set_option maxRecDepth 20000 in
/-- 36: StoneHome$Race.reachBy(II[II)V -/
def at_X3_reachBy : List (Nat × am_I) := [(0, .aload_n 0, 1, 0, 0), (1, .getfield 28, 4, 3, 1), (4, .iload_n 2, 5, 2, 0), (5, .iconst 3, 6, 0, 0), (6, .idiv, 7, 0, 0), (7, .iload_n 1, 8, 1, 0), (8, .invokevirtual 75, 11, 106, 2), (11, .ifCond .eq 14, 14, 25, 0),
  (14, .aload_n 0, 15, 0, 0), (15, .getfield 28, 18, 3, 1), (18, .iload_n 1, 19, 1, 0), (19, .invokevirtual 79, 22, 102, 1), (22, .goto 4, 25, 26, 0), (25, .iconst 0, 26, 0, 0), (26, .istore 5, 28, 5, 0), (28, .aload_n 0, 29, 0, 0),
  (29, .getfield 28, 32, 3, 1), (32, .iload_n 1, 33, 1, 0), (33, .invokevirtual 83, 36, 101, 1), (36, .istore 6, 38, 6, 0), (38, .iload 6, 40, 6, 0), (40, .iload 5, 42, 5, 0), (42, .if_icmp .ge 46, 45, 88, 0), (45, .aload_n 0, 46, 0, 0),
  (46, .getfield 24, 49, 3, 0), (49, .iload_n 2, 50, 2, 0), (50, .iload 6, 52, 6, 0), (52, .invokevirtual 86, 55, 115, 2), (55, .istore 7, 57, 7, 0), (57, .iload 7, 59, 7, 0), (59, .ifCond .lt 23, 62, 82, 0), (62, .iload 7, 64, 7, 0),
  (64, .aload_n 3, 65, 3, 0), (65, .arraylength, 66, 0, 0), (66, .if_icmp .ge 16, 69, 82, 0), (69, .aload_n 3, 70, 3, 0), (70, .iload 7, 72, 7, 0), (72, .aload_n 3, 73, 3, 0), (73, .iload 7, 75, 7, 0), (75, .iaload, 76, 0, 0),
  (76, .iload 4, 78, 4, 0), (78, .invokestatic 90, 81, 997, 2), (81, .iastore, 82, 0, 0), (82, .iinc 6 1, 85, 6, 0), (85, .goto (-47), 88, 38, 0), (88, .return_, 89, 0, 0)]
set_option maxRecDepth 20000 in
/-- 37: StoneHome$Race.takeMyTurn(II)V -/
def at_X3_takeMyTurn : List (Nat × am_I) := [(0, .iconst 0, 1, 0, 0), (1, .istore_n 3, 2, 3, 0), (2, .iload_n 3, 3, 3, 0), (3, .aload_n 0, 4, 0, 0), (4, .getfield 24, 7, 3, 0), (7, .getfield 61, 10, 8, 5), (10, .if_icmp .gt 198, 13, 208, 0), (13, .iload_n 3, 14, 3, 0),
  (14, .aload_n 0, 15, 0, 0), (15, .getfield 24, 18, 3, 0), (18, .getfield 61, 21, 8, 5), (21, .if_icmp .ge 15, 24, 36, 0), (24, .aload_n 0, 25, 0, 0), (25, .getfield 24, 28, 3, 0), (28, .getfield 65, 31, 8, 4), (31, .iload_n 3, 32, 3, 0),
  (32, .iaload, 33, 0, 0), (33, .goto 5, 36, 38, 0), (36, .bipush 96, 38, 0, 0), (38, .istore 4, 40, 4, 0), (40, .iload 4, 42, 4, 0), (42, .bipush 96, 44, 0, 0), (44, .if_icmp .eq 14, 47, 58, 0), (47, .aload_n 0, 48, 0, 0),
  (48, .getfield 21, 51, 3, 5), (51, .iload 4, 53, 4, 0), (53, .iaload, 54, 0, 0), (54, .iload_n 1, 55, 1, 0), (55, .if_icmp .gt 147, 58, 202, 0), (58, .iconst 0, 59, 0, 0), (59, .istore 5, 61, 5, 0), (61, .iload 5, 63, 5, 0),
  (63, .aload_n 0, 64, 0, 0), (64, .getfield 24, 67, 3, 0), (67, .getfield 61, 70, 8, 5), (70, .if_icmp .ge 53, 73, 123, 0), (73, .aload_n 0, 74, 0, 0), (74, .getfield 15, 77, 3, 3), (77, .aload_n 0, 78, 0, 0), (78, .getfield 24, 81, 3, 0),
  (81, .getfield 65, 84, 8, 4), (84, .iload 5, 86, 5, 0), (86, .iaload, 87, 0, 0), (87, .iload_n 2, 88, 2, 0), (88, .ifCond .ne 7, 91, 95, 0), (91, .iconst 0, 92, 0, 0), (92, .goto 24, 95, 116, 0), (95, .aload_n 0, 96, 0, 0),
  (96, .getfield 11, 99, 3, 2), (99, .aload_n 0, 100, 0, 0), (100, .getfield 24, 103, 3, 0), (103, .getfield 65, 106, 8, 4), (106, .iload 5, 108, 5, 0), (108, .iaload, 109, 0, 0), (109, .bipush 97, 111, 0, 0), (111, .imul, 112, 0, 0),
  (112, .iload 4, 114, 4, 0), (114, .iadd, 115, 0, 0), (115, .iaload, 116, 0, 0), (116, .iastore, 117, 0, 0), (117, .iinc 5 1, 120, 5, 0), (120, .goto (-59), 123, 61, 0), (123, .iconst 0, 124, 0, 0), (124, .istore 5, 126, 5, 0),
  (126, .iload 5, 128, 5, 0), (128, .aload_n 0, 129, 0, 0), (129, .getfield 24, 132, 3, 0), (132, .getfield 61, 135, 8, 5), (135, .if_icmp .ge 67, 138, 202, 0), (138, .aload_n 0, 139, 0, 0), (139, .getfield 18, 142, 3, 4), (142, .aload_n 0, 143, 0, 0),
  (143, .getfield 24, 146, 3, 0), (146, .getfield 65, 149, 8, 4), (149, .iload 5, 151, 5, 0), (151, .iaload, 152, 0, 0), (152, .iaload, 153, 0, 0), (153, .iload_n 1, 154, 1, 0), (154, .if_icmp .gt 42, 157, 196, 0), (157, .aload_n 0, 158, 0, 0),
  (158, .getfield 11, 161, 3, 2), (161, .aload_n 0, 162, 0, 0), (162, .getfield 24, 165, 3, 0), (165, .getfield 65, 168, 8, 4), (168, .iload 5, 170, 5, 0), (170, .iaload, 171, 0, 0), (171, .bipush 97, 173, 0, 0), (173, .imul, 174, 0, 0),
  (174, .iload 4, 176, 4, 0), (176, .iadd, 177, 0, 0), (177, .aload_n 0, 178, 0, 0), (178, .aload_n 0, 179, 0, 0), (179, .getfield 24, 182, 3, 0), (182, .getfield 65, 185, 8, 4), (185, .iload 5, 187, 5, 0), (187, .iaload, 188, 0, 0),
  (188, .iload_n 2, 189, 2, 0), (189, .invokestatic 95, 192, 156, 1), (192, .invokevirtual 98, 195, 38, 2), (195, .iastore, 196, 0, 0), (196, .iinc 5 1, 199, 5, 0), (199, .goto (-73), 202, 126, 0), (202, .iinc 3 1, 205, 3, 0), (205, .goto (-203), 208, 2, 0),
  (208, .return_, 209, 0, 0)]
set_option maxRecDepth 20000 in
/-- 38: StoneHome$Race.myBest(II)I -/
def at_X3_myBest : List (Nat × am_I) := [(0, .aload_n 0, 1, 0, 0), (1, .aload_n 0, 2, 0, 0), (2, .getfield 28, 5, 3, 1), (5, .getfield 68, 8, 7, 4), (8, .iload_n 1, 9, 1, 0), (9, .iload_n 2, 10, 2, 0), (10, .iconst 0, 11, 0, 0), (11, .invokevirtual 110, 14, 39, 4),
  (14, .istore_n 3, 15, 3, 0), (15, .iconst 0, 16, 0, 0), (16, .istore 4, 18, 4, 0), (18, .iload 4, 20, 4, 0), (20, .aload_n 0, 21, 0, 0), (21, .getfield 28, 24, 3, 1), (24, .getfield 68, 27, 7, 4), (27, .if_icmp .ge 38, 30, 65, 0),
  (30, .aload_n 0, 31, 0, 0), (31, .getfield 28, 34, 3, 1), (34, .iload_n 1, 35, 1, 0), (35, .iconst 3, 36, 0, 0), (36, .idiv, 37, 0, 0), (37, .iload 4, 39, 4, 0), (39, .invokevirtual 114, 42, 97, 2), (42, .ifCond .eq 17, 45, 59, 0),
  (45, .iload_n 3, 46, 3, 0), (46, .aload_n 0, 47, 0, 0), (47, .iload 4, 49, 4, 0), (49, .iload_n 1, 50, 1, 0), (50, .iload_n 2, 51, 2, 0), (51, .iconst 0, 52, 0, 0), (52, .invokevirtual 110, 55, 39, 4), (55, .invokestatic 117, 58, 996, 2),
  (58, .istore_n 3, 59, 3, 0), (59, .iinc 4 1, 62, 4, 0), (62, .goto (-44), 65, 18, 0), (65, .iload_n 3, 66, 3, 0), (66, .ireturn, 67, 0, 0)]
set_option maxRecDepth 20000 in
/-- 39: StoneHome$Race.chanceBy(IIII)I -/
def at_X3_chanceBy : List (Nat × am_I) := [(0, .iconst 0, 1, 0, 0), (1, .istore 5, 3, 5, 0), (3, .aload_n 0, 4, 0, 0), (4, .getfield 28, 7, 3, 1), (7, .iload_n 1, 8, 1, 0), (8, .invokevirtual 79, 11, 102, 1), (11, .istore 6, 13, 6, 0), (13, .aload_n 0, 14, 0, 0),
  (14, .getfield 28, 17, 3, 1), (17, .iload_n 1, 18, 1, 0), (18, .invokevirtual 83, 21, 101, 1), (21, .istore 7, 23, 7, 0), (23, .iload 7, 25, 7, 0), (25, .iload 6, 27, 6, 0), (27, .if_icmp .ge 79, 30, 106, 0), (30, .aload_n 0, 31, 0, 0),
  (31, .getfield 24, 34, 3, 0), (34, .iload_n 2, 35, 2, 0), (35, .iload 7, 37, 7, 0), (37, .invokevirtual 86, 40, 115, 2), (40, .istore 8, 42, 8, 0), (42, .iload 4, 44, 4, 0), (44, .istore 9, 46, 9, 0), (46, .iload 8, 48, 8, 0),
  (48, .ifCond .lt 35, 51, 83, 0), (51, .iload 8, 53, 8, 0), (53, .bipush 96, 55, 0, 0), (55, .if_icmp .ge 28, 58, 83, 0), (58, .aload_n 0, 59, 0, 0), (59, .getfield 28, 62, 3, 1), (62, .iload 8, 64, 8, 0), (64, .invokevirtual 32, 67, 90, 1),
  (67, .ifCond .eq 7, 70, 74, 0), (70, .iload_n 3, 71, 3, 0), (71, .goto 10, 74, 81, 0), (74, .aload_n 0, 75, 0, 0), (75, .getfield 15, 78, 3, 3), (78, .iload 8, 80, 8, 0), (80, .iaload, 81, 0, 0), (81, .istore 9, 83, 9, 0),
  (83, .iload 5, 85, 5, 0), (85, .aload_n 0, 86, 0, 0), (86, .getfield 28, 89, 3, 1), (89, .iload 7, 91, 7, 0), (91, .invokevirtual 120, 94, 103, 1), (94, .iload 9, 96, 9, 0), (96, .imul, 97, 0, 0), (97, .iadd, 98, 0, 0),
  (98, .istore 5, 100, 5, 0), (100, .iinc 7 1, 103, 7, 0), (103, .goto (-80), 106, 23, 0), (106, .iload 5, 108, 5, 0), (108, .ireturn, 109, 0, 0)]
set_option maxRecDepth 20000 in
/-- 40: StoneHome$Race.takeHisTurn(I)V -/
def at_X3_takeHisTurn : List (Nat × am_I) := [(0, .iconst 0, 1, 0, 0), (1, .istore_n 2, 2, 2, 0), (2, .iload_n 2, 3, 2, 0), (3, .aload_n 0, 4, 0, 0), (4, .getfield 24, 7, 3, 0), (7, .getfield 61, 10, 8, 5), (10, .if_icmp .ge 145, 13, 155, 0), (13, .aload_n 0, 14, 0, 0),
  (14, .getfield 24, 17, 3, 0), (17, .getfield 65, 20, 8, 4), (20, .iload_n 2, 21, 2, 0), (21, .iaload, 22, 0, 0), (22, .istore_n 3, 23, 3, 0), (23, .aload_n 0, 24, 0, 0), (24, .getfield 18, 27, 3, 4), (27, .iload_n 3, 28, 3, 0),
  (28, .iaload, 29, 0, 0), (29, .iload_n 1, 30, 1, 0), (30, .iconst 1, 31, 0, 0), (31, .iadd, 32, 0, 0), (32, .if_icmp .gt 117, 35, 149, 0), (35, .aload_n 0, 36, 0, 0), (36, .getfield 11, 39, 3, 2), (39, .iload_n 3, 40, 3, 0),
  (40, .bipush 97, 42, 0, 0), (42, .imul, 43, 0, 0), (43, .aload_n 0, 44, 0, 0), (44, .getfield 15, 47, 3, 3), (47, .iconst 0, 48, 0, 0), (48, .bipush 97, 50, 0, 0), (50, .invokestatic 101, 53, 998, 5), (53, .iconst 0, 54, 0, 0),
  (54, .istore 4, 56, 4, 0), (56, .iload 4, 58, 4, 0), (58, .aload_n 0, 59, 0, 0), (59, .getfield 24, 62, 3, 0), (62, .getfield 61, 65, 8, 5), (65, .if_icmp .ge 62, 68, 127, 0), (68, .aload_n 0, 69, 0, 0), (69, .getfield 21, 72, 3, 5),
  (72, .aload_n 0, 73, 0, 0), (73, .getfield 24, 76, 3, 0), (76, .getfield 65, 79, 8, 4), (79, .iload 4, 81, 4, 0), (81, .iaload, 82, 0, 0), (82, .iaload, 83, 0, 0), (83, .iload_n 1, 84, 1, 0), (84, .if_icmp .gt 37, 87, 121, 0),
  (87, .aload_n 0, 88, 0, 0), (88, .getfield 11, 91, 3, 2), (91, .iload_n 3, 92, 3, 0), (92, .bipush 97, 94, 0, 0), (94, .imul, 95, 0, 0), (95, .aload_n 0, 96, 0, 0), (96, .getfield 24, 99, 3, 0), (99, .getfield 65, 102, 8, 4),
  (102, .iload 4, 104, 4, 0), (104, .iaload, 105, 0, 0), (105, .iadd, 106, 0, 0), (106, .aload_n 0, 107, 0, 0), (107, .aload_n 0, 108, 0, 0), (108, .getfield 24, 111, 3, 0), (111, .getfield 65, 114, 8, 4), (114, .iload 4, 116, 4, 0),
  (116, .iaload, 117, 0, 0), (117, .invokevirtual 107, 120, 41, 1), (120, .iastore, 121, 0, 0), (121, .iinc 4 1, 124, 4, 0), (124, .goto (-68), 127, 56, 0), (127, .aload_n 0, 128, 0, 0), (128, .getfield 11, 131, 3, 2), (131, .iload_n 3, 132, 3, 0),
  (132, .bipush 97, 134, 0, 0), (134, .imul, 135, 0, 0), (135, .bipush 96, 137, 0, 0), (137, .iadd, 138, 0, 0), (138, .bipush 6, 140, 0, 0), (140, .aload_n 0, 141, 0, 0), (141, .getfield 15, 144, 3, 3), (144, .bipush 96, 146, 0, 0),
  (146, .iaload, 147, 0, 0), (147, .imul, 148, 0, 0), (148, .iastore, 149, 0, 0), (149, .iinc 2 1, 152, 2, 0), (152, .goto (-150), 155, 2, 0), (155, .return_, 156, 0, 0)]
set_option maxRecDepth 20000 in
/-- 41: StoneHome$Race.hisBest(I)I -/
def at_X3_hisBest : List (Nat × am_I) := [(0, .aload_n 0, 1, 0, 0), (1, .aload_n 0, 2, 0, 0), (2, .getfield 28, 5, 3, 1), (5, .getfield 68, 8, 7, 4), (8, .iload_n 1, 9, 1, 0), (9, .iconst 0, 10, 0, 0), (10, .aload_n 0, 11, 0, 0), (11, .getfield 15, 14, 3, 3),
  (14, .bipush 96, 16, 0, 0), (16, .iaload, 17, 0, 0), (17, .invokevirtual 110, 20, 39, 4), (20, .istore_n 2, 21, 2, 0), (21, .iconst 0, 22, 0, 0), (22, .istore_n 3, 23, 3, 0), (23, .iload_n 3, 24, 3, 0), (24, .aload_n 0, 25, 0, 0),
  (25, .getfield 28, 28, 3, 1), (28, .getfield 68, 31, 7, 4), (31, .if_icmp .ge 42, 34, 73, 0), (34, .aload_n 0, 35, 0, 0), (35, .getfield 28, 38, 3, 1), (38, .iload_n 1, 39, 1, 0), (39, .iconst 3, 40, 0, 0), (40, .idiv, 41, 0, 0),
  (41, .iload_n 3, 42, 3, 0), (42, .invokevirtual 114, 45, 97, 2), (45, .ifCond .eq 22, 48, 67, 0), (48, .iload_n 2, 49, 2, 0), (49, .aload_n 0, 50, 0, 0), (50, .iload_n 3, 51, 3, 0), (51, .iload_n 1, 52, 1, 0), (52, .iconst 0, 53, 0, 0),
  (53, .aload_n 0, 54, 0, 0), (54, .getfield 15, 57, 3, 3), (57, .bipush 96, 59, 0, 0), (59, .iaload, 60, 0, 0), (60, .invokevirtual 110, 63, 39, 4), (63, .invokestatic 90, 66, 997, 2), (66, .istore_n 2, 67, 2, 0), (67, .iinc 3 1, 70, 3, 0),
  (70, .goto (-47), 73, 23, 0), (73, .iload_n 2, 74, 2, 0), (74, .ireturn, 75, 0, 0)]
set_option maxRecDepth 20000 in
/-- 42: StoneHome$Reader.<init>([BLStoneHome$Street;)V -/
def at_X4_init : List (Nat × am_I) := [(0, .aload_n 0, 1, 0, 0), (1, .invokespecial 3, 4, 999, 0), (4, .aload_n 0, 5, 0, 0), (5, .iconst 0, 6, 0, 0), (6, .putfield 9, 9, 4, 16), (9, .aload_n 0, 10, 0, 0), (10, .iconst 0, 11, 0, 0), (11, .putfield 17, 14, 4, 24),
  (14, .aload_n 0, 15, 0, 0), (15, .iconst 0, 16, 0, 0), (16, .putfield 20, 19, 4, 32), (19, .aload_n 0, 20, 0, 0), (20, .iconst 0, 21, 0, 0), (21, .putfield 23, 24, 4, 40), (24, .aload_n 0, 25, 0, 0), (25, .iconst 0, 26, 0, 0),
  (26, .putfield 26, 29, 4, 48), (29, .aload_n 0, 30, 0, 0), (30, .iconst 4, 31, 0, 0), (31, .newarray .long, 33, 0, 0), (33, .putfield 29, 36, 4, 62), (36, .aload_n 0, 37, 0, 0), (37, .iconst 0, 38, 0, 0), (38, .putfield 33, 41, 4, 64),
  (41, .aload_n 0, 42, 0, 0), (42, .iconst (-1), 43, 0, 0), (43, .putfield 36, 46, 4, 72), (46, .aload_n 0, 47, 0, 0), (47, .iconst 0, 48, 0, 0), (48, .putfield 39, 51, 4, 80), (51, .aload_n 0, 52, 0, 0), (52, .iconst (-1), 53, 0, 0),
  (53, .putfield 42, 56, 4, 88), (56, .aload_n 0, 57, 0, 0), (57, .new 15, 60, 9, 0), (60, .dup, 61, 0, 0), (61, .aload_n 1, 62, 1, 0), (62, .invokespecial 45, 65, 116, 1), (65, .putfield 48, 68, 4, 6), (68, .aload_n 0, 69, 0, 0),
  (69, .aload_n 2, 70, 2, 0), (70, .putfield 52, 73, 4, 10), (73, .return_, 74, 0, 0)]
set_option maxRecDepth 20000 in
/-- 43: StoneHome$Reader.readText(LStoneHome$Street;I)I -/
def at_X4_readText : List (Nat × am_I) := [(0, .aload_n 0, 1, 0, 0), (1, .aload_n 1, 2, 1, 0), (2, .putfield 52, 5, 4, 10), (5, .aload_n 0, 6, 0, 0), (6, .getfield 52, 9, 4, 1), (9, .invokevirtual 56, 12, 86, 0), (12, .aload_n 0, 13, 0, 0), (13, .iconst 0, 14, 0, 0),
  (14, .putfield 33, 17, 4, 64), (17, .aload_n 0, 18, 0, 0), (18, .iconst (-1), 19, 0, 0), (19, .putfield 36, 22, 4, 72), (22, .aload_n 0, 23, 0, 0), (23, .iconst 0, 24, 0, 0), (24, .putfield 39, 27, 4, 80), (27, .aload_n 0, 28, 0, 0),
  (28, .iconst (-1), 29, 0, 0), (29, .putfield 42, 32, 4, 88), (32, .aload_n 0, 33, 0, 0), (33, .getfield 48, 36, 4, 0), (36, .iload_n 2, 37, 2, 0), (37, .invokevirtual 61, 40, 117, 1), (40, .aload_n 0, 41, 0, 0), (41, .iconst (-1), 42, 0, 0),
  (42, .putfield 9, 45, 4, 16), (45, .aload_n 0, 46, 0, 0), (46, .invokevirtual 65, 49, 44, 0), (49, .iconst 0, 50, 0, 0), (50, .istore_n 3, 51, 3, 0), (51, .iload_n 3, 52, 3, 0), (52, .sipush 400, 55, 0, 0), (55, .if_icmp .gt 27, 58, 82, 0),
  (58, .aload_n 0, 59, 0, 0), (59, .getfield 33, 62, 4, 8), (62, .ifCond .ne 20, 65, 82, 0), (65, .aload_n 0, 66, 0, 0), (66, .getfield 17, 69, 4, 3), (69, .ifCond .eq 13, 72, 82, 0), (72, .aload_n 0, 73, 0, 0), (73, .invokevirtual 68, 76, 45, 0),
  (76, .iinc 3 1, 79, 3, 0), (79, .goto (-28), 82, 51, 0), (82, .aload_n 0, 83, 0, 0), (83, .iload_n 2, 84, 2, 0), (84, .invokevirtual 71, 87, 67, 1), (87, .aload_n 0, 88, 0, 0), (88, .getfield 33, 91, 4, 8), (91, .ireturn, 92, 0, 0)]
set_option maxRecDepth 20000 in
/-- 44: StoneHome$Reader.take()V -/
def at_X4_take : List (Nat × am_I) := [(0, .aload_n 0, 1, 0, 0), (1, .getfield 33, 4, 4, 8), (4, .ifCond .ne 94, 7, 98, 0), (7, .aload_n 0, 8, 0, 0), (8, .dup, 9, 0, 0), (9, .getfield 9, 12, 4, 2), (12, .iconst 1, 13, 0, 0), (13, .iadd, 14, 0, 0),
  (14, .putfield 9, 17, 4, 16), (17, .aload_n 0, 18, 0, 0), (18, .getfield 9, 21, 4, 2), (21, .sipush 400, 24, 0, 0), (24, .if_icmp .gt 10, 27, 34, 0), (27, .aload_n 0, 28, 0, 0), (28, .getfield 9, 31, 4, 2), (31, .ifCond .ge 19, 34, 50, 0),
  (34, .aload_n 0, 35, 0, 0), (35, .iconst 2, 36, 0, 0), (36, .putfield 33, 39, 4, 64), (39, .aload_n 0, 40, 0, 0), (40, .aload_n 0, 41, 0, 0), (41, .getfield 20, 44, 4, 4), (44, .putfield 36, 47, 4, 72), (47, .goto 51, 50, 98, 0),
  (50, .aload_n 0, 51, 0, 0), (51, .aload_n 0, 52, 0, 0), (52, .getfield 48, 55, 4, 0), (55, .getfield 239, 58, 9, 0), (58, .aload_n 0, 59, 0, 0), (59, .getfield 9, 62, 4, 2), (62, .iaload, 63, 0, 0), (63, .putfield 17, 66, 4, 24),
  (66, .aload_n 0, 67, 0, 0), (67, .aload_n 0, 68, 0, 0), (68, .getfield 48, 71, 4, 0), (71, .getfield 242, 74, 9, 1), (74, .aload_n 0, 75, 0, 0), (75, .getfield 9, 78, 4, 2), (78, .iaload, 79, 0, 0), (79, .putfield 20, 82, 4, 32),
  (82, .aload_n 0, 83, 0, 0), (83, .aload_n 0, 84, 0, 0), (84, .getfield 48, 87, 4, 0), (87, .getfield 245, 90, 9, 2), (90, .aload_n 0, 91, 0, 0), (91, .getfield 9, 94, 4, 2), (94, .iaload, 95, 0, 0), (95, .putfield 23, 98, 4, 40),
  (98, .return_, 99, 0, 0)]
set_option maxRecDepth 20000 in
/-- 45: StoneHome$Reader.takeTell()V -/
def at_X4_takeTell : List (Nat × am_I) := [(0, .aload_n 0, 1, 0, 0), (1, .getfield 17, 4, 4, 3), (4, .iconst 2, 5, 0, 0), (5, .if_icmp .ne 10, 8, 15, 0), (8, .aload_n 0, 9, 0, 0), (9, .getfield 23, 12, 4, 5), (12, .goto 4, 15, 16, 0), (15, .iconst (-1), 16, 0, 0),
  (16, .tableswitch 114 0 7 #[48, 114, 55, 62, 70, 78, 86, 100], 64, 130, 0), (64, .aload_n 0, 65, 0, 0), (65, .invokevirtual 78, 68, 46, 0), (68, .goto 66, 71, 134, 0), (71, .aload_n 0, 72, 0, 0), (72, .invokevirtual 81, 75, 50, 0), (75, .goto 59, 78, 134, 0), (78, .aload_n 0, 79, 0, 0),
  (79, .iconst 0, 80, 0, 0), (80, .invokevirtual 86, 83, 58, 1), (83, .goto 51, 86, 134, 0), (86, .aload_n 0, 87, 0, 0), (87, .iconst 1, 88, 0, 0), (88, .invokevirtual 86, 91, 58, 1), (91, .goto 43, 94, 134, 0), (94, .aload_n 0, 95, 0, 0),
  (95, .iconst 2, 96, 0, 0), (96, .invokevirtual 86, 99, 58, 1), (99, .goto 35, 102, 134, 0), (102, .aload_n 0, 103, 0, 0), (103, .aload_n 0, 104, 0, 0), (104, .getfield 52, 107, 4, 1), (107, .getfield 89, 110, 7, 11), (110, .invokevirtual 93, 113, 65, 1),
  (113, .goto 21, 116, 134, 0), (116, .aload_n 0, 117, 0, 0), (117, .aload_n 0, 118, 0, 0), (118, .getfield 52, 121, 4, 1), (121, .getfield 97, 124, 7, 12), (124, .invokevirtual 93, 127, 65, 1), (127, .goto 7, 130, 134, 0), (130, .aload_n 0, 131, 0, 0),
  (131, .invokevirtual 100, 134, 66, 0), (134, .aload_n 0, 135, 0, 0), (135, .bipush 59, 137, 0, 0), (137, .invokevirtual 103, 140, 59, 1), (140, .return_, 141, 0, 0)]
set_option maxRecDepth 20000 in
/-- 46: StoneHome$Reader.takeRow()V -/
def at_X4_takeRow : List (Nat × am_I) := [(0, .aload_n 0, 1, 0, 0), (1, .getfield 52, 4, 4, 1), (4, .getfield 126, 7, 7, 1), (7, .iconst 4, 8, 0, 0), (8, .if_icmp .lt 9, 11, 17, 0), (11, .aload_n 0, 12, 0, 0), (12, .iconst 2, 13, 0, 0), (13, .invokevirtual 123, 16, 47, 1),
  (16, .return_, 17, 0, 0), (17, .aload_n 0, 18, 0, 0), (18, .invokevirtual 65, 21, 44, 0), (21, .aload_n 0, 22, 0, 0), (22, .getfield 17, 25, 4, 3), (25, .iconst 1, 26, 0, 0), (26, .if_icmp .eq 9, 29, 35, 0), (29, .aload_n 0, 30, 0, 0),
  (30, .iconst 1, 31, 0, 0), (31, .invokevirtual 123, 34, 47, 1), (34, .return_, 35, 0, 0), (35, .aload_n 0, 36, 0, 0), (36, .getfield 52, 39, 4, 1), (39, .getfield 126, 42, 7, 1), (42, .ifCond .ne 14, 45, 56, 0), (45, .aload_n 0, 46, 0, 0),
  (46, .getfield 52, 49, 4, 1), (49, .aload_n 0, 50, 0, 0), (50, .getfield 23, 53, 4, 5), (53, .putfield 129, 56, 7, 0), (56, .aload_n 0, 57, 0, 0), (57, .getfield 23, 60, 4, 5), (60, .aload_n 0, 61, 0, 0), (61, .getfield 52, 64, 4, 1),
  (64, .getfield 129, 67, 7, 0), (67, .if_icmp .ne 10, 70, 77, 0), (70, .aload_n 0, 71, 0, 0), (71, .invokevirtual 132, 74, 48, 0), (74, .ifCond .ne 13, 77, 87, 0), (77, .aload_n 0, 78, 0, 0), (78, .bipush 6, 80, 0, 0), (80, .aload_n 0, 81, 0, 0),
  (81, .getfield 20, 84, 4, 4), (84, .invokevirtual 135, 87, 49, 2), (87, .aload_n 0, 88, 0, 0), (88, .getfield 52, 91, 4, 1), (91, .dup, 92, 0, 0), (92, .getfield 126, 95, 7, 1), (95, .iconst 1, 96, 0, 0), (96, .iadd, 97, 0, 0),
  (97, .putfield 126, 100, 7, 8), (100, .aload_n 0, 101, 0, 0), (101, .invokevirtual 65, 104, 44, 0), (104, .return_, 105, 0, 0)]
set_option maxRecDepth 20000 in
/-- 47: StoneHome$Reader.fail(I)V -/
def at_X4_fail : List (Nat × am_I) := [(0, .aload_n 0, 1, 0, 0), (1, .getfield 33, 4, 4, 8), (4, .ifCond .ne 16, 7, 20, 0), (7, .aload_n 0, 8, 0, 0), (8, .iload_n 1, 9, 1, 0), (9, .putfield 33, 12, 4, 64), (12, .aload_n 0, 13, 0, 0), (13, .aload_n 0, 14, 0, 0),
  (14, .getfield 20, 17, 4, 4), (17, .putfield 36, 20, 4, 72), (20, .return_, 21, 0, 0)]
set_option maxRecDepth 20000 in
/-- 48: StoneHome$Reader.layRow()Z -/
def at_X4_layRow : List (Nat × am_I) := [(0, .iconst 1, 1, 0, 0), (1, .istore_n 1, 2, 1, 0), (2, .iconst 0, 3, 0, 0), (3, .istore_n 2, 4, 2, 0), (4, .iload_n 2, 5, 2, 0), (5, .aload_n 0, 6, 0, 0), (6, .getfield 23, 9, 4, 5), (9, .if_icmp .ge 58, 12, 67, 0),
  (12, .ldc 139, 14, 1, 4), (14, .aload_n 0, 15, 0, 0), (15, .getfield 48, 18, 4, 0), (18, .aload_n 0, 19, 0, 0), (19, .getfield 20, 22, 4, 4), (22, .iload_n 2, 23, 2, 0), (23, .iadd, 24, 0, 0), (24, .invokevirtual 141, 27, 126, 1),
  (27, .invokevirtual 145, 30, 298, 1), (30, .istore_n 3, 31, 3, 0), (31, .iload_n 1, 32, 1, 0), (32, .ifCond .eq 11, 35, 43, 0), (35, .iload_n 3, 36, 3, 0), (36, .ifCond .lt 7, 39, 43, 0), (39, .iconst 1, 40, 0, 0), (40, .goto 4, 43, 44, 0),
  (43, .iconst 0, 44, 0, 0), (44, .istore_n 1, 45, 1, 0), (45, .aload_n 0, 46, 0, 0), (46, .getfield 52, 49, 4, 1), (49, .iload_n 2, 50, 2, 0), (50, .aload_n 0, 51, 0, 0), (51, .getfield 52, 54, 4, 1), (54, .getfield 126, 57, 7, 1),
  (57, .iload_n 3, 58, 3, 0), (58, .invokevirtual 151, 61, 91, 3), (61, .iinc 2 1, 64, 2, 0), (64, .goto (-60), 67, 4, 0), (67, .iload_n 1, 68, 1, 0), (68, .ireturn, 69, 0, 0)]
set_option maxRecDepth 20000 in
/-- 49: StoneHome$Reader.failLate(II)V -/
def at_X4_failLate : List (Nat × am_I) := [(0, .aload_n 0, 1, 0, 0), (1, .getfield 39, 4, 4, 10), (4, .ifCond .eq 27, 7, 31, 0), (7, .iload_n 2, 8, 2, 0), (8, .aload_n 0, 9, 0, 0), (9, .getfield 42, 12, 4, 11), (12, .if_icmp .lt 19, 15, 31, 0), (15, .iload_n 2, 16, 2, 0),
  (16, .aload_n 0, 17, 0, 0), (17, .getfield 42, 20, 4, 11), (20, .if_icmp .ne 21, 23, 41, 0), (23, .iload_n 1, 24, 1, 0), (24, .aload_n 0, 25, 0, 0), (25, .getfield 39, 28, 4, 10), (28, .if_icmp .ge 13, 31, 41, 0), (31, .aload_n 0, 32, 0, 0),
  (32, .iload_n 1, 33, 1, 0), (33, .putfield 39, 36, 4, 80), (36, .aload_n 0, 37, 0, 0), (37, .iload_n 2, 38, 2, 0), (38, .putfield 42, 41, 4, 88), (41, .return_, 42, 0, 0)]
set_option maxRecDepth 20000 in
/-- 50: StoneHome$Reader.takeKick()V -/
def at_X4_takeKick : List (Nat × am_I) := [(0, .aload_n 0, 1, 0, 0), (1, .getfield 52, 4, 4, 1), (4, .getfield 155, 7, 7, 4), (7, .istore_n 1, 8, 1, 0), (8, .iload_n 1, 9, 1, 0), (9, .ifCond .lt 8, 12, 17, 0), (12, .iload_n 1, 13, 1, 0), (13, .iconst 4, 14, 0, 0),
  (14, .if_icmp .lt 9, 17, 23, 0), (17, .aload_n 0, 18, 0, 0), (18, .iconst 2, 19, 0, 0), (19, .invokevirtual 123, 22, 47, 1), (22, .return_, 23, 0, 0), (23, .aload_n 0, 24, 0, 0), (24, .invokevirtual 65, 27, 44, 0), (27, .aload_n 0, 28, 0, 0),
  (28, .getfield 17, 31, 4, 3), (31, .iconst 1, 32, 0, 0), (32, .if_icmp .eq 9, 35, 41, 0), (35, .aload_n 0, 36, 0, 0), (36, .iconst 1, 37, 0, 0), (37, .invokevirtual 123, 40, 47, 1), (40, .return_, 41, 0, 0), (41, .aload_n 0, 42, 0, 0),
  (42, .getfield 20, 45, 4, 4), (45, .istore_n 2, 46, 2, 0), (46, .aload_n 0, 47, 0, 0), (47, .getfield 48, 50, 4, 0), (50, .aload_n 0, 51, 0, 0), (51, .getfield 20, 54, 4, 4), (54, .aload_n 0, 55, 0, 0), (55, .getfield 23, 58, 4, 5),
  (58, .invokevirtual 158, 61, 127, 2), (61, .lstore_n 3, 62, 3, 0), (62, .aload_n 0, 63, 0, 0), (63, .lload_n 3, 64, 3, 0), (64, .invokevirtual 162, 67, 51, 1), (67, .ifCond .eq 9, 70, 76, 0), (70, .aload_n 0, 71, 0, 0), (71, .iconst 3, 72, 0, 0),
  (72, .iload_n 2, 73, 2, 0), (73, .invokevirtual 135, 76, 49, 2), (76, .aload_n 0, 77, 0, 0), (77, .getfield 29, 80, 4, 7), (80, .iload_n 1, 81, 1, 0), (81, .lload_n 3, 82, 3, 0), (82, .lastore, 83, 0, 0), (83, .aload_n 0, 84, 0, 0),
  (84, .invokevirtual 65, 87, 44, 0), (87, .aload_n 0, 88, 0, 0), (88, .iload_n 1, 89, 1, 0), (89, .invokevirtual 166, 92, 52, 1), (92, .bipush 6, 94, 0, 0), (94, .if_icmp .eq 9, 97, 103, 0), (97, .aload_n 0, 98, 0, 0), (98, .iconst 5, 99, 0, 0),
  (99, .iload_n 2, 100, 2, 0), (100, .invokevirtual 135, 103, 49, 2), (103, .aload_n 0, 104, 0, 0), (104, .getfield 52, 107, 4, 1), (107, .dup, 108, 0, 0), (108, .getfield 155, 111, 7, 4), (111, .iconst 1, 112, 0, 0), (112, .iadd, 113, 0, 0),
  (113, .putfield 155, 116, 7, 32), (116, .return_, 117, 0, 0)]
set_option maxRecDepth 20000 in
/-- 51: StoneHome$Reader.isToldKick(J)Z -/
def at_X4_isToldKick : List (Nat × am_I) := [(0, .iconst 0, 1, 0, 0), (1, .istore_n 3, 2, 3, 0), (2, .iload_n 3, 3, 3, 0), (3, .aload_n 0, 4, 0, 0), (4, .getfield 52, 7, 4, 1), (7, .getfield 155, 10, 7, 4), (10, .if_icmp .ge 31, 13, 41, 0), (13, .iload_n 3, 14, 3, 0),
  (14, .aload_n 0, 15, 0, 0), (15, .getfield 29, 18, 4, 7), (18, .arraylength, 19, 0, 0), (19, .if_icmp .ge 22, 22, 41, 0), (22, .aload_n 0, 23, 0, 0), (23, .getfield 29, 26, 4, 7), (26, .iload_n 3, 27, 3, 0), (27, .laload, 28, 0, 0),
  (28, .lload_n 1, 29, 1, 0), (29, .lcmp, 30, 0, 0), (30, .ifCond .ne 5, 33, 35, 0), (33, .iconst 1, 34, 0, 0), (34, .ireturn, 35, 0, 0), (35, .iinc 3 1, 38, 3, 0), (38, .goto (-36), 41, 2, 0), (41, .iconst 0, 42, 0, 0),
  (42, .ireturn, 43, 0, 0)]
set_option maxRecDepth 20000 in
/-- 52: StoneHome$Reader.takeOutcomes(I)I -/
def at_X4_takeOutcomes : List (Nat × am_I) := [(0, .iconst 0, 1, 0, 0), (1, .istore_n 2, 2, 2, 0), (2, .iconst 0, 3, 0, 0), (3, .istore_n 3, 4, 3, 0), (4, .iconst 0, 5, 0, 0), (5, .istore 4, 7, 4, 0), (7, .iload 4, 9, 4, 0), (9, .bipush 6, 11, 0, 0),
  (11, .if_icmp .gt 54, 14, 65, 0), (14, .aload_n 0, 15, 0, 0), (15, .getfield 33, 18, 4, 8), (18, .ifCond .ne 47, 21, 65, 0), (21, .aload_n 0, 22, 0, 0), (22, .getfield 17, 25, 4, 3), (25, .iconst 3, 26, 0, 0), (26, .if_icmp .ne 39, 29, 65, 0),
  (29, .iload_n 3, 30, 3, 0), (30, .bipush 6, 32, 0, 0), (32, .if_icmp .ne 11, 35, 43, 0), (35, .aload_n 0, 36, 0, 0), (36, .iconst 2, 37, 0, 0), (37, .invokevirtual 123, 40, 47, 1), (40, .goto 19, 43, 59, 0), (43, .iload_n 2, 44, 2, 0),
  (44, .aload_n 0, 45, 0, 0), (45, .iload_n 1, 46, 1, 0), (46, .bipush 6, 48, 0, 0), (48, .imul, 49, 0, 0), (49, .iload_n 3, 50, 3, 0), (50, .iadd, 51, 0, 0), (51, .invokevirtual 169, 54, 53, 1), (54, .iadd, 55, 0, 0),
  (55, .istore_n 2, 56, 2, 0), (56, .iinc 3 1, 59, 3, 0), (59, .iinc 4 1, 62, 4, 0), (62, .goto (-55), 65, 7, 0), (65, .aload_n 0, 66, 0, 0), (66, .getfield 52, 69, 4, 1), (69, .getfield 172, 72, 7, 5), (72, .iload_n 1, 73, 1, 0),
  (73, .iload_n 3, 74, 3, 0), (74, .iastore, 75, 0, 0), (75, .iload_n 2, 76, 2, 0), (76, .ireturn, 77, 0, 0)]
set_option maxRecDepth 20000 in
/-- 53: StoneHome$Reader.takeOutcome(I)I -/
def at_X4_takeOutcome : List (Nat × am_I) := [(0, .aload_n 0, 1, 0, 0), (1, .iconst 1, 2, 0, 0), (2, .bipush 6, 4, 0, 0), (4, .invokevirtual 107, 7, 54, 2), (7, .istore_n 2, 8, 2, 0), (8, .aload_n 0, 9, 0, 0), (9, .bipush 11, 11, 0, 0), (11, .invokevirtual 175, 14, 55, 1),
  (14, .aload_n 0, 15, 0, 0), (15, .iconst 0, 16, 0, 0), (16, .iconst 4, 17, 0, 0), (17, .invokevirtual 107, 20, 54, 2), (20, .istore_n 3, 21, 3, 0), (21, .aload_n 0, 22, 0, 0), (22, .bipush 45, 24, 0, 0), (24, .invokevirtual 178, 27, 57, 1),
  (27, .istore 4, 29, 4, 0), (29, .iload 4, 31, 4, 0), (31, .ifCond .eq 7, 34, 38, 0), (34, .aload_n 0, 35, 0, 0), (35, .invokevirtual 65, 38, 44, 0), (38, .aload_n 0, 39, 0, 0), (39, .iconst 0, 40, 0, 0), (40, .iconst 2, 41, 0, 0),
  (41, .invokevirtual 107, 44, 54, 2), (44, .istore 5, 46, 5, 0), (46, .iconst 0, 47, 0, 0), (47, .istore 6, 49, 6, 0), (49, .aload_n 0, 50, 0, 0), (50, .bipush 12, 52, 0, 0), (52, .invokevirtual 182, 55, 56, 1), (55, .ifCond .eq 15, 58, 70, 0),
  (58, .aload_n 0, 59, 0, 0), (59, .invokevirtual 65, 62, 44, 0), (62, .aload_n 0, 63, 0, 0), (63, .iconst 0, 64, 0, 0), (64, .iconst 2, 65, 0, 0), (65, .invokevirtual 107, 68, 54, 2), (68, .istore 6, 70, 6, 0), (70, .iload_n 1, 71, 1, 0),
  (71, .ifCond .lt 62, 74, 133, 0), (74, .iload_n 1, 75, 1, 0), (75, .bipush 24, 77, 0, 0), (77, .if_icmp .ge 56, 80, 133, 0), (80, .aload_n 0, 81, 0, 0), (81, .getfield 52, 84, 4, 1), (84, .getfield 186, 87, 7, 6), (87, .iload_n 1, 88, 1, 0),
  (88, .iload_n 2, 89, 2, 0), (89, .iastore, 90, 0, 0), (90, .aload_n 0, 91, 0, 0), (91, .getfield 52, 94, 4, 1), (94, .getfield 189, 97, 7, 7), (97, .iload_n 1, 98, 1, 0), (98, .iload_n 3, 99, 3, 0), (99, .iastore, 100, 0, 0),
  (100, .aload_n 0, 101, 0, 0), (101, .getfield 52, 104, 4, 1), (104, .getfield 192, 107, 7, 8), (107, .iload_n 1, 108, 1, 0), (108, .iload 4, 110, 4, 0), (110, .ifCond .eq 9, 113, 119, 0), (113, .iload 5, 115, 5, 0), (115, .ineg, 116, 0, 0),
  (116, .goto 5, 119, 121, 0), (119, .iload 5, 121, 5, 0), (121, .iastore, 122, 0, 0), (122, .aload_n 0, 123, 0, 0), (123, .getfield 52, 126, 4, 1), (126, .getfield 195, 129, 7, 9), (129, .iload_n 1, 130, 1, 0), (130, .iload 6, 132, 6, 0),
  (132, .iastore, 133, 0, 0), (133, .iload_n 2, 134, 2, 0), (134, .ireturn, 135, 0, 0)]
set_option maxRecDepth 20000 in
/-- 54: StoneHome$Reader.takeInt(II)I -/
def at_X4_takeInt : List (Nat × am_I) := [(0, .aload_n 0, 1, 0, 0), (1, .getfield 17, 4, 4, 3), (4, .iconst 3, 5, 0, 0), (5, .if_icmp .eq 10, 8, 15, 0), (8, .aload_n 0, 9, 0, 0), (9, .iconst 1, 10, 0, 0), (10, .invokevirtual 123, 13, 47, 1), (13, .iload_n 1, 14, 1, 0),
  (14, .ireturn, 15, 0, 0), (15, .aload_n 0, 16, 0, 0), (16, .getfield 23, 19, 4, 5), (19, .istore_n 3, 20, 3, 0), (20, .iload_n 3, 21, 3, 0), (21, .iload_n 1, 22, 1, 0), (22, .if_icmp .lt 8, 25, 30, 0), (25, .iload_n 3, 26, 3, 0),
  (26, .iload_n 2, 27, 2, 0), (27, .if_icmp .le 12, 30, 39, 0), (30, .aload_n 0, 31, 0, 0), (31, .iconst 5, 32, 0, 0), (32, .aload_n 0, 33, 0, 0), (33, .getfield 20, 36, 4, 4), (36, .invokevirtual 135, 39, 49, 2), (39, .aload_n 0, 40, 0, 0),
  (40, .invokevirtual 65, 43, 44, 0), (43, .iload_n 3, 44, 3, 0), (44, .ireturn, 45, 0, 0)]
set_option maxRecDepth 20000 in
/-- 55: StoneHome$Reader.takeWord(I)V -/
def at_X4_takeWord : List (Nat × am_I) := [(0, .aload_n 0, 1, 0, 0), (1, .iload_n 1, 2, 1, 0), (2, .invokevirtual 182, 5, 56, 1), (5, .ifCond .eq 10, 8, 15, 0), (8, .aload_n 0, 9, 0, 0), (9, .invokevirtual 65, 12, 44, 0), (12, .goto 8, 15, 20, 0), (15, .aload_n 0, 16, 0, 0),
  (16, .iconst 1, 17, 0, 0), (17, .invokevirtual 123, 20, 47, 1), (20, .return_, 21, 0, 0)]
set_option maxRecDepth 20000 in
/-- 56: StoneHome$Reader.isWord(I)Z -/
def at_X4_isWord : List (Nat × am_I) := [(0, .aload_n 0, 1, 0, 0), (1, .getfield 17, 4, 4, 3), (4, .iconst 2, 5, 0, 0), (5, .if_icmp .ne 15, 8, 20, 0), (8, .aload_n 0, 9, 0, 0), (9, .getfield 23, 12, 4, 5), (12, .iload_n 1, 13, 1, 0), (13, .if_icmp .ne 7, 16, 20, 0),
  (16, .iconst 1, 17, 0, 0), (17, .goto 4, 20, 21, 0), (20, .iconst 0, 21, 0, 0), (21, .ireturn, 22, 0, 0)]
set_option maxRecDepth 20000 in
/-- 57: StoneHome$Reader.isSign(C)Z -/
def at_X4_isSign : List (Nat × am_I) := [(0, .aload_n 0, 1, 0, 0), (1, .getfield 17, 4, 4, 3), (4, .iconst 4, 5, 0, 0), (5, .if_icmp .ne 15, 8, 20, 0), (8, .aload_n 0, 9, 0, 0), (9, .getfield 23, 12, 4, 5), (12, .iload_n 1, 13, 1, 0), (13, .if_icmp .ne 7, 16, 20, 0),
  (16, .iconst 1, 17, 0, 0), (17, .goto 4, 20, 21, 0), (20, .iconst 0, 21, 0, 0), (21, .ireturn, 22, 0, 0)]
set_option maxRecDepth 20000 in
/-- 58: StoneHome$Reader.takeLaw(I)V -/
def at_X4_takeLaw : List (Nat × am_I) := [(0, .aload_n 0, 1, 0, 0), (1, .iload_n 1, 2, 1, 0), (2, .putfield 26, 5, 4, 48), (5, .aload_n 0, 6, 0, 0), (6, .invokevirtual 65, 9, 44, 0), (9, .aload_n 0, 10, 0, 0), (10, .bipush 61, 12, 0, 0), (12, .invokevirtual 103, 15, 59, 1),
  (15, .aload_n 0, 16, 0, 0), (16, .getfield 52, 19, 4, 1), (19, .getfield 198, 22, 7, 10), (22, .aload_n 0, 23, 0, 0), (23, .getfield 26, 26, 4, 6), (26, .invokevirtual 202, 29, 14, 1), (29, .iconst 0, 30, 0, 0), (30, .istore_n 2, 31, 2, 0),
  (31, .iload_n 2, 32, 2, 0), (32, .iconst 4, 33, 0, 0), (33, .if_icmp .gt 42, 36, 75, 0), (36, .aload_n 0, 37, 0, 0), (37, .getfield 33, 40, 4, 8), (40, .ifCond .ne 35, 43, 75, 0), (43, .aload_n 0, 44, 0, 0), (44, .bipush 13, 46, 0, 0),
  (46, .invokevirtual 182, 49, 56, 1), (49, .ifCond .eq 26, 52, 75, 0), (52, .iload_n 2, 53, 2, 0), (53, .iconst 4, 54, 0, 0), (54, .if_icmp .ne 11, 57, 65, 0), (57, .aload_n 0, 58, 0, 0), (58, .iconst 2, 59, 0, 0), (59, .invokevirtual 123, 62, 47, 1),
  (62, .goto 7, 65, 69, 0), (65, .aload_n 0, 66, 0, 0), (66, .invokevirtual 205, 69, 60, 0), (69, .iinc 2 1, 72, 2, 0), (72, .goto (-41), 75, 31, 0), (75, .aload_n 0, 76, 0, 0), (76, .invokevirtual 208, 79, 61, 0), (79, .aload_n 0, 80, 0, 0),
  (80, .getfield 52, 83, 4, 1), (83, .getfield 198, 86, 7, 10), (86, .bipush 7, 88, 0, 0), (88, .iconst 0, 89, 0, 0), (89, .invokevirtual 211, 92, 16, 2), (92, .pop, 93, 0, 0), (93, .return_, 94, 0, 0)]
set_option maxRecDepth 20000 in
/-- 59: StoneHome$Reader.takeSign(C)V -/
def at_X4_takeSign : List (Nat × am_I) := [(0, .aload_n 0, 1, 0, 0), (1, .iload_n 1, 2, 1, 0), (2, .invokevirtual 178, 5, 57, 1), (5, .ifCond .eq 10, 8, 15, 0), (8, .aload_n 0, 9, 0, 0), (9, .invokevirtual 65, 12, 44, 0), (12, .goto 8, 15, 20, 0), (15, .aload_n 0, 16, 0, 0),
  (16, .iconst 1, 17, 0, 0), (17, .invokevirtual 123, 20, 47, 1), (20, .return_, 21, 0, 0)]
set_option maxRecDepth 20000 in
/-- 60: StoneHome$Reader.takeBranch()V -/
def at_X4_takeBranch : List (Nat × am_I) := [(0, .aload_n 0, 1, 0, 0), (1, .invokevirtual 65, 4, 44, 0), (4, .aload_n 0, 5, 0, 0), (5, .invokevirtual 208, 8, 61, 0), (8, .aload_n 0, 9, 0, 0), (9, .bipush 60, 11, 0, 0), (11, .invokevirtual 103, 14, 59, 1), (14, .aload_n 0, 15, 0, 0),
  (15, .invokevirtual 208, 18, 61, 0), (18, .aload_n 0, 19, 0, 0), (19, .getfield 52, 22, 4, 1), (22, .getfield 198, 25, 7, 10), (25, .bipush 6, 27, 0, 0), (27, .iconst 0, 28, 0, 0), (28, .invokevirtual 211, 31, 16, 2), (31, .istore_n 1, 32, 1, 0),
  (32, .aload_n 0, 33, 0, 0), (33, .bipush 14, 35, 0, 0), (35, .invokevirtual 175, 38, 55, 1), (38, .aload_n 0, 39, 0, 0), (39, .invokevirtual 208, 42, 61, 0), (42, .aload_n 0, 43, 0, 0), (43, .bipush 15, 45, 0, 0), (45, .invokevirtual 175, 48, 55, 1),
  (48, .aload_n 0, 49, 0, 0), (49, .getfield 52, 52, 4, 1), (52, .getfield 198, 55, 7, 10), (55, .bipush 7, 57, 0, 0), (57, .iconst 0, 58, 0, 0), (58, .invokevirtual 211, 61, 16, 2), (61, .pop, 62, 0, 0), (62, .aload_n 0, 63, 0, 0),
  (63, .getfield 52, 66, 4, 1), (66, .getfield 198, 69, 7, 10), (69, .iload_n 1, 70, 1, 0), (70, .invokevirtual 214, 73, 21, 1), (73, .return_, 74, 0, 0)]
set_option maxRecDepth 20000 in
/-- 61: StoneHome$Reader.takeFormula()V -/
def at_X4_takeFormula : List (Nat × am_I) := [(0, .iconst 0, 1, 0, 0), (1, .istore_n 1, 2, 1, 0), (2, .iconst 1, 3, 0, 0), (3, .istore_n 2, 4, 2, 0), (4, .aload_n 0, 5, 0, 0), (5, .getfield 52, 8, 4, 1), (8, .getfield 198, 11, 7, 10), (11, .bipush 8, 13, 0, 0),
  (13, .invokevirtual 217, 16, 15, 1), (16, .iconst 0, 17, 0, 0), (17, .istore_n 3, 18, 3, 0), (18, .iload_n 3, 19, 3, 0), (19, .sipush 400, 22, 0, 0), (22, .if_icmp .gt 116, 25, 138, 0), (25, .aload_n 0, 26, 0, 0), (26, .getfield 33, 29, 4, 8),
  (29, .ifCond .ne 109, 32, 138, 0), (32, .aload_n 0, 33, 0, 0), (33, .invokevirtual 220, 36, 62, 0), (36, .istore 4, 38, 4, 0), (38, .iload_n 2, 39, 2, 0), (39, .ifCond .eq 23, 42, 62, 0), (42, .aload_n 0, 43, 0, 0), (43, .bipush 40, 45, 0, 0),
  (45, .invokevirtual 178, 48, 57, 1), (48, .ifCond .eq 14, 51, 62, 0), (51, .iinc 1 1, 54, 1, 0), (54, .aload_n 0, 55, 0, 0), (55, .iload_n 1, 56, 1, 0), (56, .invokevirtual 224, 59, 63, 1), (59, .goto 73, 62, 132, 0), (62, .iload_n 2, 63, 2, 0),
  (63, .ifCond .eq 12, 66, 75, 0), (66, .aload_n 0, 67, 0, 0), (67, .invokevirtual 227, 70, 64, 0), (70, .iconst 0, 71, 0, 0), (71, .istore_n 2, 72, 2, 0), (72, .goto 60, 75, 132, 0), (75, .iload_n 1, 76, 1, 0), (76, .ifCond .le 32, 79, 108, 0),
  (79, .aload_n 0, 80, 0, 0), (80, .bipush 41, 82, 0, 0), (82, .invokevirtual 178, 85, 57, 1), (85, .ifCond .eq 23, 88, 108, 0), (88, .iinc 1 (-1), 91, 1, 0), (91, .aload_n 0, 92, 0, 0), (92, .getfield 52, 95, 4, 1), (95, .getfield 198, 98, 7, 10),
  (98, .invokevirtual 230, 101, 18, 0), (101, .aload_n 0, 102, 0, 0), (102, .invokevirtual 65, 105, 44, 0), (105, .goto 27, 108, 132, 0), (108, .iload 4, 110, 4, 0), (110, .iconst (-1), 111, 0, 0), (111, .if_icmp .eq 27, 114, 138, 0), (114, .aload_n 0, 115, 0, 0),
  (115, .getfield 52, 118, 4, 1), (118, .getfield 198, 121, 7, 10), (121, .iload 4, 123, 4, 0), (123, .invokevirtual 233, 126, 20, 1), (126, .aload_n 0, 127, 0, 0), (127, .invokevirtual 65, 130, 44, 0), (130, .iconst 1, 131, 0, 0), (131, .istore_n 2, 132, 2, 0),
  (132, .iinc 3 1, 135, 3, 0), (135, .goto (-117), 138, 18, 0), (138, .iload_n 1, 139, 1, 0), (139, .ifCond .le 8, 142, 147, 0), (142, .aload_n 0, 143, 0, 0), (143, .iconst 1, 144, 0, 0), (144, .invokevirtual 123, 147, 47, 1), (147, .aload_n 0, 148, 0, 0),
  (148, .getfield 52, 151, 4, 1), (151, .getfield 198, 154, 7, 10), (154, .invokevirtual 230, 157, 18, 0), (157, .return_, 158, 0, 0)]
set_option maxRecDepth 20000 in
/-- 62: StoneHome$Reader.operatorNext()I -/
def at_X4_operatorNext : List (Nat × am_I) := [(0, .aload_n 0, 1, 0, 0), (1, .getfield 17, 4, 4, 3), (4, .iconst 4, 5, 0, 0), (5, .if_icmp .ne 10, 8, 15, 0), (8, .aload_n 0, 9, 0, 0), (9, .getfield 23, 12, 4, 5), (12, .goto 4, 15, 16, 0), (15, .iconst (-1), 16, 0, 0),
  (16, .tableswitch 48 42 47 #[44, 40, 48, 42, 48, 46], 56, 64, 0), (56, .iconst 2, 57, 0, 0), (57, .ireturn, 58, 0, 0), (58, .iconst 3, 59, 0, 0), (59, .ireturn, 60, 0, 0), (60, .iconst 4, 61, 0, 0), (61, .ireturn, 62, 0, 0), (62, .iconst 5, 63, 0, 0),
  (63, .ireturn, 64, 0, 0), (64, .iconst (-1), 65, 0, 0), (65, .ireturn, 66, 0, 0)]
set_option maxRecDepth 20000 in
/-- 63: StoneHome$Reader.takeOpening(I)V -/
def at_X4_takeOpening : List (Nat × am_I) := [(0, .iload_n 1, 1, 1, 0), (1, .bipush 6, 3, 0, 0), (3, .if_icmp .le 11, 6, 14, 0), (6, .aload_n 0, 7, 0, 0), (7, .iconst 2, 8, 0, 0), (8, .invokevirtual 123, 11, 47, 1), (11, .goto 19, 14, 30, 0), (14, .aload_n 0, 15, 0, 0),
  (15, .getfield 52, 18, 4, 1), (18, .getfield 198, 21, 7, 10), (21, .bipush 8, 23, 0, 0), (23, .invokevirtual 217, 26, 15, 1), (26, .aload_n 0, 27, 0, 0), (27, .invokevirtual 65, 30, 44, 0), (30, .return_, 31, 0, 0)]
set_option maxRecDepth 20000 in
/-- 64: StoneHome$Reader.takeUnit()V -/
def at_X4_takeUnit : List (Nat × am_I) := [(0, .aload_n 0, 1, 0, 0), (1, .getfield 17, 4, 4, 3), (4, .iconst 3, 5, 0, 0), (5, .if_icmp .ne 26, 8, 31, 0), (8, .aload_n 0, 9, 0, 0), (9, .getfield 52, 12, 4, 1), (12, .getfield 198, 15, 7, 10), (15, .iconst 0, 16, 0, 0),
  (16, .aload_n 0, 17, 0, 0), (17, .getfield 23, 20, 4, 5), (20, .invokevirtual 211, 23, 16, 2), (23, .pop, 24, 0, 0), (24, .aload_n 0, 25, 0, 0), (25, .invokevirtual 65, 28, 44, 0), (28, .goto 83, 31, 111, 0), (31, .aload_n 0, 32, 0, 0),
  (32, .getfield 17, 35, 4, 3), (35, .iconst 2, 36, 0, 0), (36, .if_icmp .ne 70, 39, 106, 0), (39, .aload_n 0, 40, 0, 0), (40, .getfield 23, 43, 4, 5), (43, .bipush 16, 45, 0, 0), (45, .if_icmp .lt 61, 48, 106, 0), (48, .aload_n 0, 49, 0, 0),
  (49, .getfield 23, 52, 4, 5), (52, .bipush 22, 54, 0, 0), (54, .if_icmp .gt 52, 57, 106, 0), (57, .aload_n 0, 58, 0, 0), (58, .getfield 52, 61, 4, 1), (61, .getfield 198, 64, 7, 10), (64, .iconst 1, 65, 0, 0), (65, .aload_n 0, 66, 0, 0),
  (66, .getfield 23, 69, 4, 5), (69, .bipush 16, 71, 0, 0), (71, .isub, 72, 0, 0), (72, .invokevirtual 211, 75, 16, 2), (75, .pop, 76, 0, 0), (76, .aload_n 0, 77, 0, 0), (77, .getfield 23, 80, 4, 5), (80, .bipush 22, 82, 0, 0),
  (82, .if_icmp .ne 17, 85, 99, 0), (85, .aload_n 0, 86, 0, 0), (86, .getfield 52, 89, 4, 1), (89, .getfield 198, 92, 7, 10), (92, .aload_n 0, 93, 0, 0), (93, .getfield 26, 96, 4, 6), (96, .invokevirtual 236, 99, 17, 1), (99, .aload_n 0, 100, 0, 0),
  (100, .invokevirtual 65, 103, 44, 0), (103, .goto 8, 106, 111, 0), (106, .aload_n 0, 107, 0, 0), (107, .iconst 1, 108, 0, 0), (108, .invokevirtual 123, 111, 47, 1), (111, .return_, 112, 0, 0)]
set_option maxRecDepth 20000 in
/-- 65: StoneHome$Reader.takeSpot([I)V -/
def at_X4_takeSpot : List (Nat × am_I) := [(0, .aload_n 0, 1, 0, 0), (1, .invokevirtual 65, 4, 44, 0), (4, .iconst 0, 5, 0, 0), (5, .istore_n 2, 6, 2, 0), (6, .iload_n 2, 7, 2, 0), (7, .aload_n 1, 8, 1, 0), (8, .arraylength, 9, 0, 0), (9, .if_icmp .ge 19, 12, 28, 0),
  (12, .aload_n 1, 13, 1, 0), (13, .iload_n 2, 14, 2, 0), (14, .aload_n 0, 15, 0, 0), (15, .iconst 0, 16, 0, 0), (16, .bipush 9, 18, 0, 0), (18, .invokevirtual 107, 21, 54, 2), (21, .iastore, 22, 0, 0), (22, .iinc 2 1, 25, 2, 0),
  (25, .goto (-19), 28, 6, 0), (28, .return_, 29, 0, 0)]
set_option maxRecDepth 20000 in
/-- 66: StoneHome$Reader.takeSetting()V -/
def at_X4_takeSetting : List (Nat × am_I) := [(0, .aload_n 0, 1, 0, 0), (1, .getfield 17, 4, 4, 3), (4, .iconst 2, 5, 0, 0), (5, .if_icmp .ne 10, 8, 15, 0), (8, .aload_n 0, 9, 0, 0), (9, .getfield 23, 12, 4, 5), (12, .goto 4, 15, 16, 0), (15, .iconst (-1), 16, 0, 0),
  (16, .tableswitch 139 1 10 #[56, 139, 139, 139, 139, 139, 139, 76, 96, 117], 72, 155, 0), (72, .aload_n 0, 73, 0, 0), (73, .invokevirtual 65, 76, 44, 0), (76, .aload_n 0, 77, 0, 0), (77, .getfield 52, 80, 4, 1), (80, .aload_n 0, 81, 0, 0), (81, .iconst 1, 82, 0, 0), (82, .iconst 3, 83, 0, 0),
  (83, .invokevirtual 107, 86, 54, 2), (86, .putfield 111, 89, 7, 24), (89, .goto 71, 92, 160, 0), (92, .aload_n 0, 93, 0, 0), (93, .invokevirtual 65, 96, 44, 0), (96, .aload_n 0, 97, 0, 0), (97, .getfield 52, 100, 4, 1), (100, .aload_n 0, 101, 0, 0),
  (101, .iconst 0, 102, 0, 0), (102, .iconst 2, 103, 0, 0), (103, .invokevirtual 107, 106, 54, 2), (106, .putfield 114, 109, 7, 104), (109, .goto 51, 112, 160, 0), (112, .aload_n 0, 113, 0, 0), (113, .invokevirtual 65, 116, 44, 0), (116, .aload_n 0, 117, 0, 0),
  (117, .getfield 52, 120, 4, 1), (120, .aload_n 0, 121, 0, 0), (121, .iconst 1, 122, 0, 0), (122, .bipush 99, 124, 0, 0), (124, .invokevirtual 107, 127, 54, 2), (127, .putfield 117, 130, 7, 112), (130, .goto 30, 133, 160, 0), (133, .aload_n 0, 134, 0, 0),
  (134, .invokevirtual 65, 137, 44, 0), (137, .aload_n 0, 138, 0, 0), (138, .getfield 52, 141, 4, 1), (141, .aload_n 0, 142, 0, 0), (142, .iconst 0, 143, 0, 0), (143, .sipush 9999, 146, 0, 0), (146, .invokevirtual 107, 149, 54, 2), (149, .putfield 120, 152, 7, 120),
  (152, .goto 8, 155, 160, 0), (155, .aload_n 0, 156, 0, 0), (156, .iconst 1, 157, 0, 0), (157, .invokevirtual 123, 160, 47, 1), (160, .return_, 161, 0, 0)]
set_option maxRecDepth 20000 in
/-- 67: StoneHome$Reader.judge(I)V -/
def at_X4_judge : List (Nat × am_I) := [(0, .aload_n 0, 1, 0, 0), (1, .getfield 33, 4, 4, 8), (4, .ifCond .ne 26, 7, 30, 0), (7, .aload_n 0, 8, 0, 0), (8, .getfield 39, 11, 4, 10), (11, .ifCond .eq 19, 14, 30, 0), (14, .aload_n 0, 15, 0, 0), (15, .aload_n 0, 16, 0, 0),
  (16, .getfield 39, 19, 4, 10), (19, .putfield 33, 22, 4, 64), (22, .aload_n 0, 23, 0, 0), (23, .aload_n 0, 24, 0, 0), (24, .getfield 42, 27, 4, 11), (27, .putfield 36, 30, 4, 72), (30, .aload_n 0, 31, 0, 0), (31, .getfield 33, 34, 4, 8),
  (34, .ifCond .ne 24, 37, 58, 0), (37, .aload_n 0, 38, 0, 0), (38, .getfield 52, 41, 4, 1), (41, .invokevirtual 74, 44, 92, 0), (44, .ifCond .ne 14, 47, 58, 0), (47, .aload_n 0, 48, 0, 0), (48, .bipush 7, 50, 0, 0), (50, .putfield 33, 53, 4, 64),
  (53, .aload_n 0, 54, 0, 0), (54, .iload_n 1, 55, 1, 0), (55, .putfield 36, 58, 4, 72), (58, .return_, 59, 0, 0)]
set_option maxRecDepth 20000 in
/-- 68: StoneHome$Reader.placeOfFault()I -/
def at_X4_placeOfFault : List (Nat × am_I) := [(0, .aload_n 0, 1, 0, 0), (1, .getfield 36, 4, 4, 9), (4, .ireturn, 5, 0, 0)]
set_option maxRecDepth 20000 in
/-- 69: StoneHome$Scratches.<init>()V -/
def at_X5_init : List (Nat × am_I) := [(0, .aload_n 0, 1, 0, 0), (1, .invokespecial 3, 4, 999, 0), (4, .aload_n 0, 5, 0, 0), (5, .iconst 5, 6, 0, 0), (6, .newarray .int, 8, 0, 0), (8, .putfield 9, 11, 5, 6), (11, .aload_n 0, 12, 0, 0), (12, .iconst 0, 13, 0, 0),
  (13, .putfield 15, 16, 5, 8), (16, .aload_n 0, 17, 0, 0), (17, .sipush 180, 20, 0, 0), (20, .newarray .int, 22, 0, 0), (22, .putfield 19, 25, 5, 22), (25, .aload_n 0, 26, 0, 0), (26, .iconst 0, 27, 0, 0), (27, .putfield 22, 30, 5, 24),
  (30, .aload_n 0, 31, 0, 0), (31, .iconst 0, 32, 0, 0), (32, .putfield 25, 35, 5, 32), (35, .aload_n 0, 36, 0, 0), (36, .iconst 3, 37, 0, 0), (37, .newarray .int, 39, 0, 0), (39, .putfield 28, 42, 5, 46), (42, .aload_n 0, 43, 0, 0),
  (43, .iconst 3, 44, 0, 0), (44, .newarray .int, 46, 0, 0), (46, .putfield 31, 49, 5, 54), (49, .return_, 50, 0, 0)]
set_option maxRecDepth 20000 in
/-- 70: StoneHome$Scratches.clear()I -/
def at_X5_clear : List (Nat × am_I) := [(0, .aload_n 0, 1, 0, 0), (1, .getfield 15, 4, 5, 1), (4, .istore_n 1, 5, 1, 0), (5, .aload_n 0, 6, 0, 0), (6, .iconst 0, 7, 0, 0), (7, .putfield 15, 10, 5, 8), (10, .iload_n 1, 11, 1, 0), (11, .ireturn, 12, 0, 0)]
set_option maxRecDepth 20000 in
/-- 71: StoneHome$Scratches.add(I)I -/
def at_X5_add : List (Nat × am_I) := [(0, .aload_n 0, 1, 0, 0), (1, .getfield 15, 4, 5, 1), (4, .iconst 5, 5, 0, 0), (5, .if_icmp .lt 5, 8, 10, 0), (8, .iconst (-1), 9, 0, 0), (9, .ireturn, 10, 0, 0), (10, .aload_n 0, 11, 0, 0), (11, .getfield 9, 14, 5, 0),
  (14, .aload_n 0, 15, 0, 0), (15, .getfield 15, 18, 5, 1), (18, .iload_n 1, 19, 1, 0), (19, .iastore, 20, 0, 0), (20, .aload_n 0, 21, 0, 0), (21, .dup, 22, 0, 0), (22, .getfield 15, 25, 5, 1), (25, .iconst 1, 26, 0, 0),
  (26, .iadd, 27, 0, 0), (27, .putfield 15, 30, 5, 8), (30, .aload_n 0, 31, 0, 0), (31, .getfield 15, 34, 5, 1), (34, .iconst 1, 35, 0, 0), (35, .isub, 36, 0, 0), (36, .ireturn, 37, 0, 0)]
set_option maxRecDepth 20000 in
/-- 72: StoneHome$Scratches.knows(I)Z -/
def at_X5_knows : List (Nat × am_I) := [(0, .iload_n 1, 1, 1, 0), (1, .ifCond .lt 15, 4, 16, 0), (4, .iload_n 1, 5, 1, 0), (5, .aload_n 0, 6, 0, 0), (6, .getfield 15, 9, 5, 1), (9, .if_icmp .gt 7, 12, 16, 0), (12, .iconst 1, 13, 0, 0), (13, .goto 4, 16, 17, 0),
  (16, .iconst 0, 17, 0, 0), (17, .ireturn, 18, 0, 0)]
set_option maxRecDepth 20000 in
/-- 73: StoneHome$Scratches.weigh(LStoneHome$Street;I)V -/
def at_X5_weigh : List (Nat × am_I) := [(0, .aload_n 0, 1, 0, 0), (1, .aload_n 1, 2, 1, 0), (2, .getfield 34, 5, 7, 4), (5, .putfield 22, 8, 5, 24), (8, .aload_n 0, 9, 0, 0), (9, .aload_n 1, 10, 1, 0), (10, .invokevirtual 37, 13, 87, 0), (13, .iconst 3, 14, 0, 0),
  (14, .irem, 15, 0, 0), (15, .putfield 25, 18, 5, 32), (18, .aload_n 0, 19, 0, 0), (19, .getfield 19, 22, 5, 2), (22, .iconst 0, 23, 0, 0), (23, .invokestatic 41, 26, 293, 2), (26, .iconst 0, 27, 0, 0), (27, .istore_n 3, 28, 3, 0),
  (28, .iload_n 3, 29, 3, 0), (29, .iload_n 2, 30, 2, 0), (30, .if_icmp .ge 76, 33, 106, 0), (33, .iload_n 3, 34, 3, 0), (34, .iconst 5, 35, 0, 0), (35, .if_icmp .ge 71, 38, 106, 0), (38, .iload_n 3, 39, 3, 0), (39, .ifCond .ne 12, 42, 51, 0),
  (42, .aload_n 1, 43, 1, 0), (43, .invokevirtual 37, 46, 87, 0), (46, .iconst 3, 47, 0, 0), (47, .idiv, 48, 0, 0), (48, .goto 11, 51, 59, 0), (51, .aload_n 0, 52, 0, 0), (52, .getfield 9, 55, 5, 0), (55, .iload_n 3, 56, 3, 0),
  (56, .iconst 1, 57, 0, 0), (57, .isub, 58, 0, 0), (58, .iaload, 59, 0, 0), (59, .istore 4, 61, 4, 0), (61, .iconst 0, 62, 0, 0), (62, .istore 5, 64, 5, 0), (64, .iload 5, 66, 5, 0), (66, .aload_n 0, 67, 0, 0),
  (67, .getfield 22, 70, 5, 3), (70, .if_icmp .ge 30, 73, 100, 0), (73, .aload_n 1, 74, 1, 0), (74, .iload 4, 76, 4, 0), (76, .iload 5, 78, 5, 0), (78, .invokevirtual 47, 81, 97, 2), (81, .ifCond .eq 13, 84, 94, 0), (84, .aload_n 0, 85, 0, 0),
  (85, .aload_n 1, 86, 1, 0), (86, .iload_n 3, 87, 3, 0), (87, .iload 4, 89, 4, 0), (89, .iload 5, 91, 5, 0), (91, .invokevirtual 51, 94, 74, 4), (94, .iinc 5 1, 97, 5, 0), (97, .goto (-33), 100, 64, 0), (100, .iinc 3 1, 103, 3, 0),
  (103, .goto (-75), 106, 28, 0), (106, .return_, 107, 0, 0)]
set_option maxRecDepth 20000 in
/-- 74: StoneHome$Scratches.weighKick(LStoneHome$Street;III)V -/
def at_X5_weighKick : List (Nat × am_I) := [(0, .aload_n 1, 1, 1, 0), (1, .iload 4, 3, 4, 0), (3, .invokevirtual 55, 6, 102, 1), (6, .istore 5, 8, 5, 0), (8, .iconst 0, 9, 0, 0), (9, .istore 6, 11, 6, 0), (11, .iload 6, 13, 6, 0), (13, .aload_n 1, 14, 1, 0),
  (14, .getfield 59, 17, 7, 3), (17, .if_icmp .ge 99, 20, 116, 0), (20, .aload_n 1, 21, 1, 0), (21, .iload 4, 23, 4, 0), (23, .invokevirtual 62, 26, 101, 1), (26, .istore 7, 28, 7, 0), (28, .iload 7, 30, 7, 0), (30, .iload 5, 32, 5, 0),
  (32, .if_icmp .ge 78, 35, 110, 0), (35, .aload_n 1, 36, 1, 0), (36, .iload_n 3, 37, 3, 0), (37, .iload 6, 39, 6, 0), (39, .invokestatic 65, 42, 131, 2), (42, .iload 7, 44, 7, 0), (44, .iload_n 2, 45, 2, 0), (45, .aload_n 1, 46, 1, 0),
  (46, .getfield 69, 49, 7, 14), (49, .imul, 50, 0, 0), (50, .invokevirtual 72, 53, 104, 3), (53, .istore 8, 55, 8, 0), (55, .iload 8, 57, 8, 0), (57, .iconst (-1), 58, 0, 0), (58, .if_icmp .eq 46, 61, 104, 0), (61, .iload 8, 63, 8, 0),
  (63, .iconst 3, 64, 0, 0), (64, .idiv, 65, 0, 0), (65, .aload_n 0, 66, 0, 0), (66, .getfield 9, 69, 5, 0), (69, .iload_n 2, 70, 2, 0), (70, .iaload, 71, 0, 0), (71, .if_icmp .ne 33, 74, 104, 0), (74, .iload_n 2, 75, 2, 0),
  (75, .iload 4, 77, 4, 0), (77, .iload 6, 79, 6, 0), (79, .iload 8, 81, 8, 0), (81, .iconst 3, 82, 0, 0), (82, .irem, 83, 0, 0), (83, .invokestatic 76, 86, 75, 4), (86, .istore 9, 88, 9, 0), (88, .aload_n 0, 89, 0, 0),
  (89, .getfield 19, 92, 5, 2), (92, .iload 9, 94, 9, 0), (94, .dup2, 95, 0, 0), (95, .iaload, 96, 0, 0), (96, .aload_n 1, 97, 1, 0), (97, .iload 7, 99, 7, 0), (99, .invokevirtual 80, 102, 103, 1), (102, .iadd, 103, 0, 0),
  (103, .iastore, 104, 0, 0), (104, .iinc 7 1, 107, 7, 0), (107, .goto (-79), 110, 28, 0), (110, .iinc 6 1, 113, 6, 0), (113, .goto (-102), 116, 11, 0), (116, .return_, 117, 0, 0)]
set_option maxRecDepth 20000 in
/-- 75: StoneHome$Scratches.placeFor(IIII)I -/
def at_X5_placeFor : List (Nat × am_I) := [(0, .iload_n 0, 1, 0, 0), (1, .iconst 4, 2, 0, 0), (2, .imul, 3, 0, 0), (3, .iload_n 1, 4, 1, 0), (4, .iadd, 5, 0, 0), (5, .bipush 9, 7, 0, 0), (7, .imul, 8, 0, 0), (8, .iload_n 2, 9, 2, 0),
  (9, .iconst 3, 10, 0, 0), (10, .imul, 11, 0, 0), (11, .iadd, 12, 0, 0), (12, .iload_n 3, 13, 3, 0), (13, .iadd, 14, 0, 0), (14, .ireturn, 15, 0, 0)]
set_option maxRecDepth 20000 in
/-- 76: StoneHome$Scratches.howMany(I)I -/
def at_X5_howMany : List (Nat × am_I) := [(0, .iconst 0, 1, 0, 0), (1, .istore_n 2, 2, 2, 0), (2, .iconst 0, 3, 0, 0), (3, .istore_n 3, 4, 3, 0), (4, .iload_n 3, 5, 3, 0), (5, .iconst 1, 6, 0, 0), (6, .iconst 2, 7, 0, 0), (7, .iload_n 1, 8, 1, 0),
  (8, .imul, 9, 0, 0), (9, .ishl, 10, 0, 0), (10, .if_icmp .ge 21, 13, 31, 0), (13, .aload_n 0, 14, 0, 0), (14, .iload_n 1, 15, 1, 0), (15, .iload_n 3, 16, 3, 0), (16, .invokevirtual 83, 19, 77, 2), (19, .ifCond .le 6, 22, 25, 0),
  (22, .iinc 2 1, 25, 2, 0), (25, .iinc 3 1, 28, 3, 0), (28, .goto (-24), 31, 4, 0), (31, .iload_n 2, 32, 2, 0), (32, .ireturn, 33, 0, 0)]
set_option maxRecDepth 20000 in
/-- 77: StoneHome$Scratches.weight(II)I -/
def at_X5_weight : List (Nat × am_I) := [(0, .aload_n 0, 1, 0, 0), (1, .getfield 28, 4, 5, 5), (4, .iconst 0, 5, 0, 0), (5, .invokestatic 41, 8, 293, 2), (8, .aload_n 0, 9, 0, 0), (9, .getfield 28, 12, 5, 5), (12, .aload_n 0, 13, 0, 0), (13, .getfield 25, 16, 5, 4),
  (16, .iconst 1, 17, 0, 0), (17, .iastore, 18, 0, 0), (18, .iconst 1, 19, 0, 0), (19, .istore_n 3, 20, 3, 0), (20, .iconst 0, 21, 0, 0), (21, .istore 4, 23, 4, 0), (23, .iload 4, 25, 4, 0), (25, .iload_n 1, 26, 1, 0),
  (26, .if_icmp .ge 55, 29, 81, 0), (29, .iload 4, 31, 4, 0), (31, .iconst 5, 32, 0, 0), (32, .if_icmp .ge 49, 35, 81, 0), (35, .iload_n 3, 36, 3, 0), (36, .ifCond .le 45, 39, 81, 0), (39, .iload_n 2, 40, 2, 0), (40, .iconst 2, 41, 0, 0),
  (41, .iload_n 1, 42, 1, 0), (42, .iconst 1, 43, 0, 0), (43, .isub, 44, 0, 0), (44, .iload 4, 46, 4, 0), (46, .isub, 47, 0, 0), (47, .imul, 48, 0, 0), (48, .ishr, 49, 0, 0), (49, .iconst 3, 50, 0, 0),
  (50, .iand, 51, 0, 0), (51, .istore 5, 53, 5, 0), (53, .iload 5, 55, 5, 0), (55, .aload_n 0, 56, 0, 0), (56, .getfield 22, 59, 5, 3), (59, .if_icmp .ge 14, 62, 73, 0), (62, .aload_n 0, 63, 0, 0), (63, .iload 4, 65, 4, 0),
  (65, .iload 5, 67, 5, 0), (67, .invokevirtual 86, 70, 78, 2), (70, .goto 4, 73, 74, 0), (73, .iconst 0, 74, 0, 0), (74, .istore_n 3, 75, 3, 0), (75, .iinc 4 1, 78, 4, 0), (78, .goto (-55), 81, 23, 0), (81, .iload_n 3, 82, 3, 0),
  (82, .ireturn, 83, 0, 0)]
set_option maxRecDepth 20000 in
/-- 78: StoneHome$Scratches.pass(II)I -/
def at_X5_pass : List (Nat × am_I) := [(0, .iconst 0, 1, 0, 0), (1, .istore_n 3, 2, 3, 0), (2, .aload_n 0, 3, 0, 0), (3, .getfield 31, 6, 5, 6), (6, .iconst 0, 7, 0, 0), (7, .invokestatic 41, 10, 293, 2), (10, .iconst 0, 11, 0, 0), (11, .istore 4, 13, 4, 0),
  (13, .iload 4, 15, 4, 0), (15, .iconst 3, 16, 0, 0), (16, .if_icmp .ge 65, 19, 81, 0), (19, .iconst 0, 20, 0, 0), (20, .istore 5, 22, 5, 0), (22, .iload 5, 24, 5, 0), (24, .iconst 3, 25, 0, 0), (25, .if_icmp .ge 50, 28, 75, 0),
  (28, .aload_n 0, 29, 0, 0), (29, .getfield 28, 32, 5, 5), (32, .iload 4, 34, 4, 0), (34, .iaload, 35, 0, 0), (35, .aload_n 0, 36, 0, 0), (36, .getfield 19, 39, 5, 2), (39, .iload_n 1, 40, 1, 0), (40, .iload_n 2, 41, 2, 0),
  (41, .iload 4, 43, 4, 0), (43, .iload 5, 45, 5, 0), (45, .invokestatic 76, 48, 75, 4), (48, .iaload, 49, 0, 0), (49, .imul, 50, 0, 0), (50, .istore 6, 52, 6, 0), (52, .aload_n 0, 53, 0, 0), (53, .getfield 31, 56, 5, 6),
  (56, .iload 5, 58, 5, 0), (58, .dup2, 59, 0, 0), (59, .iaload, 60, 0, 0), (60, .iload 6, 62, 6, 0), (62, .iadd, 63, 0, 0), (63, .iastore, 64, 0, 0), (64, .iload_n 3, 65, 3, 0), (65, .iload 6, 67, 6, 0),
  (67, .iadd, 68, 0, 0), (68, .istore_n 3, 69, 3, 0), (69, .iinc 5 1, 72, 5, 0), (72, .goto (-50), 75, 22, 0), (75, .iinc 4 1, 78, 4, 0), (78, .goto (-65), 81, 13, 0), (81, .aload_n 0, 82, 0, 0), (82, .getfield 31, 85, 5, 6),
  (85, .iconst 0, 86, 0, 0), (86, .aload_n 0, 87, 0, 0), (87, .getfield 28, 90, 5, 5), (90, .iconst 0, 91, 0, 0), (91, .iconst 3, 92, 0, 0), (92, .invokestatic 89, 95, 998, 5), (95, .iload_n 3, 96, 3, 0), (96, .ireturn, 97, 0, 0)]
set_option maxRecDepth 20000 in
/-- 79: StoneHome$Scratches.codeOf(II)I -/
def at_X5_codeOf : List (Nat × am_I) := [(0, .iconst 0, 1, 0, 0), (1, .istore_n 3, 2, 3, 0), (2, .iconst 0, 3, 0, 0), (3, .istore 4, 5, 4, 0), (5, .iload 4, 7, 4, 0), (7, .iconst 1, 8, 0, 0), (8, .iconst 2, 9, 0, 0), (9, .iload_n 1, 10, 1, 0),
  (10, .imul, 11, 0, 0), (11, .ishl, 12, 0, 0), (12, .if_icmp .ge 30, 15, 42, 0), (15, .aload_n 0, 16, 0, 0), (16, .iload_n 1, 17, 1, 0), (17, .iload 4, 19, 4, 0), (19, .invokevirtual 83, 22, 77, 2), (22, .ifCond .le 14, 25, 36, 0),
  (25, .iload_n 3, 26, 3, 0), (26, .iload_n 2, 27, 2, 0), (27, .if_icmp .ne 6, 30, 33, 0), (30, .iload 4, 32, 4, 0), (32, .ireturn, 33, 0, 0), (33, .iinc 3 1, 36, 3, 0), (36, .iinc 4 1, 39, 4, 0), (39, .goto (-34), 42, 5, 0),
  (42, .iconst (-1), 43, 0, 0), (43, .ireturn, 44, 0, 0)]
set_option maxRecDepth 20000 in
/-- 80: StoneHome$Stone.<init>()V -/
def at_X6_init : List (Nat × am_I) := [(0, .aload_n 0, 1, 0, 0), (1, .invokespecial 3, 4, 999, 0), (4, .aload_n 0, 5, 0, 0), (5, .iconst 0, 6, 0, 0), (6, .putfield 9, 9, 6, 0), (9, .aload_n 0, 10, 0, 0), (10, .iconst 0, 11, 0, 0), (11, .putfield 15, 14, 6, 8),
  (14, .aload_n 0, 15, 0, 0), (15, .iconst 0, 16, 0, 0), (16, .putfield 18, 19, 6, 16), (19, .aload_n 0, 20, 0, 0), (20, .iconst 0, 21, 0, 0), (21, .putfield 21, 24, 6, 24), (24, .aload_n 0, 25, 0, 0), (25, .iconst 0, 26, 0, 0),
  (26, .putfield 24, 29, 6, 32), (29, .aload_n 0, 30, 0, 0), (30, .iconst 0, 31, 0, 0), (31, .putfield 27, 34, 6, 40), (34, .aload_n 0, 35, 0, 0), (35, .iconst 0, 36, 0, 0), (36, .putfield 30, 39, 6, 48), (39, .aload_n 0, 40, 0, 0),
  (40, .iconst 0, 41, 0, 0), (41, .putfield 33, 44, 6, 57), (44, .return_, 45, 0, 0)]
set_option maxRecDepth 20000 in
/-- 81: StoneHome$Stone.beginOn(LStoneHome$Street;)V -/
def at_X6_beginOn : List (Nat × am_I) := [(0, .aload_n 1, 1, 1, 0), (1, .invokevirtual 41, 4, 87, 0), (4, .istore_n 2, 5, 2, 0), (5, .aload_n 0, 6, 0, 0), (6, .iload_n 2, 7, 2, 0), (7, .iconst 3, 8, 0, 0), (8, .idiv, 9, 0, 0), (9, .putfield 9, 12, 6, 0),
  (12, .aload_n 0, 13, 0, 0), (13, .iload_n 2, 14, 2, 0), (14, .iconst 3, 15, 0, 0), (15, .irem, 16, 0, 0), (16, .putfield 15, 19, 6, 8), (19, .aload_n 0, 20, 0, 0), (20, .aload_n 1, 21, 1, 0), (21, .getfield 47, 24, 7, 13),
  (24, .putfield 18, 27, 6, 16), (27, .aload_n 0, 28, 0, 0), (28, .iconst 0, 29, 0, 0), (29, .putfield 21, 32, 6, 24), (32, .aload_n 0, 33, 0, 0), (33, .iconst 0, 34, 0, 0), (34, .putfield 24, 37, 6, 32), (37, .aload_n 0, 38, 0, 0),
  (38, .iconst 0, 39, 0, 0), (39, .putfield 27, 42, 6, 40), (42, .aload_n 0, 43, 0, 0), (43, .aload_n 1, 44, 1, 0), (44, .aload_n 0, 45, 0, 0), (45, .getfield 9, 48, 6, 0), (48, .invokevirtual 48, 51, 88, 1), (51, .bipush 6, 53, 0, 0),
  (53, .if_icmp .ne 7, 56, 60, 0), (56, .iconst 1, 57, 0, 0), (57, .goto 4, 60, 61, 0), (60, .iconst 0, 61, 0, 0), (61, .putfield 30, 64, 6, 48), (64, .return_, 65, 0, 0)]
set_option maxRecDepth 20000 in
/-- 82: StoneHome$Stone.copyFrom(LStoneHome$Stone;)V -/
def at_X6_copyFrom : List (Nat × am_I) := [(0, .aload_n 0, 1, 0, 0), (1, .aload_n 1, 2, 1, 0), (2, .getfield 9, 5, 6, 0), (5, .putfield 9, 8, 6, 0), (8, .aload_n 0, 9, 0, 0), (9, .aload_n 1, 10, 1, 0), (10, .getfield 15, 13, 6, 1), (13, .putfield 15, 16, 6, 8),
  (16, .aload_n 0, 17, 0, 0), (17, .aload_n 1, 18, 1, 0), (18, .getfield 18, 21, 6, 2), (21, .putfield 18, 24, 6, 16), (24, .aload_n 0, 25, 0, 0), (25, .aload_n 1, 26, 1, 0), (26, .getfield 21, 29, 6, 3), (29, .putfield 21, 32, 6, 24),
  (32, .aload_n 0, 33, 0, 0), (33, .aload_n 1, 34, 1, 0), (34, .getfield 24, 37, 6, 4), (37, .putfield 24, 40, 6, 32), (40, .aload_n 0, 41, 0, 0), (41, .aload_n 1, 42, 1, 0), (42, .getfield 27, 45, 6, 5), (45, .putfield 27, 48, 6, 40),
  (48, .aload_n 0, 49, 0, 0), (49, .aload_n 1, 50, 1, 0), (50, .getfield 30, 53, 6, 6), (53, .putfield 30, 56, 6, 48), (56, .return_, 57, 0, 0)]
set_option maxRecDepth 20000 in
/-- 83: StoneHome$Stone.lie()I -/
def at_X6_lie : List (Nat × am_I) := [(0, .aload_n 0, 1, 0, 0), (1, .getfield 9, 4, 6, 0), (4, .aload_n 0, 5, 0, 0), (5, .getfield 15, 8, 6, 1), (8, .invokestatic 37, 11, 131, 2), (11, .ireturn, 12, 0, 0)]
set_option maxRecDepth 20000 in
/-- 84: StoneHome$Street.<init>()V -/
def at_X7_init : List (Nat × am_I) := [(0, .aload_n 0, 1, 0, 0), (1, .invokespecial 3, 4, 999, 0), (4, .aload_n 0, 5, 0, 0), (5, .iconst 0, 6, 0, 0), (6, .putfield 9, 9, 7, 0), (9, .aload_n 0, 10, 0, 0), (10, .iconst 0, 11, 0, 0), (11, .putfield 15, 14, 7, 8),
  (14, .aload_n 0, 15, 0, 0), (15, .bipush 32, 17, 0, 0), (17, .newarray .int, 19, 0, 0), (19, .putfield 18, 22, 7, 22), (22, .aload_n 0, 23, 0, 0), (23, .iconst 1, 24, 0, 0), (24, .putfield 22, 27, 7, 24), (27, .aload_n 0, 28, 0, 0),
  (28, .iconst 0, 29, 0, 0), (29, .putfield 25, 32, 7, 32), (32, .aload_n 0, 33, 0, 0), (33, .iconst 4, 34, 0, 0), (34, .newarray .int, 36, 0, 0), (36, .putfield 28, 39, 7, 46), (39, .aload_n 0, 40, 0, 0), (40, .bipush 25, 42, 0, 0),
  (42, .newarray .int, 44, 0, 0), (44, .putfield 31, 47, 7, 54), (47, .aload_n 0, 48, 0, 0), (48, .bipush 25, 50, 0, 0), (50, .newarray .int, 52, 0, 0), (52, .putfield 34, 55, 7, 62), (55, .aload_n 0, 56, 0, 0), (56, .bipush 25, 58, 0, 0),
  (58, .newarray .int, 60, 0, 0), (60, .putfield 37, 63, 7, 70), (63, .aload_n 0, 64, 0, 0), (64, .bipush 25, 66, 0, 0), (66, .newarray .int, 68, 0, 0), (68, .putfield 40, 71, 7, 78), (71, .aload_n 0, 72, 0, 0), (72, .new 43, 75, 1, 0),
  (75, .dup, 76, 0, 0), (76, .invokespecial 45, 79, 12, 0), (79, .putfield 46, 82, 7, 86), (82, .aload_n 0, 83, 0, 0), (83, .iconst 3, 84, 0, 0), (84, .newarray .int, 86, 0, 0), (86, .putfield 50, 89, 7, 94), (89, .aload_n 0, 90, 0, 0),
  (90, .iconst 3, 91, 0, 0), (91, .newarray .int, 93, 0, 0), (93, .putfield 53, 96, 7, 102), (96, .aload_n 0, 97, 0, 0), (97, .iconst 0, 98, 0, 0), (98, .putfield 56, 101, 7, 104), (101, .aload_n 0, 102, 0, 0), (102, .iconst 5, 103, 0, 0),
  (103, .putfield 59, 106, 7, 112), (106, .aload_n 0, 107, 0, 0), (107, .iconst 0, 108, 0, 0), (108, .putfield 62, 111, 7, 120), (111, .return_, 112, 0, 0)]
set_option maxRecDepth 20000 in
/-- 85: StoneHome$Street.layAhead()V -/
def at_X7_layAhead : List (Nat × am_I) := [(0, .aload_n 0, 1, 0, 0), (1, .invokevirtual 74, 4, 86, 0), (4, .aload_n 0, 5, 0, 0), (5, .iconst 2, 6, 0, 0), (6, .putfield 9, 9, 7, 0), (9, .aload_n 0, 10, 0, 0), (10, .iconst 1, 11, 0, 0), (11, .putfield 15, 14, 7, 8),
  (14, .aload_n 0, 15, 0, 0), (15, .getfield 18, 18, 7, 2), (18, .iconst 0, 19, 0, 0), (19, .iconst 0, 20, 0, 0), (20, .iastore, 21, 0, 0), (21, .aload_n 0, 22, 0, 0), (22, .getfield 18, 25, 7, 2), (25, .iconst 1, 26, 0, 0),
  (26, .bipush 6, 28, 0, 0), (28, .iastore, 29, 0, 0), (29, .aload_n 0, 30, 0, 0), (30, .iconst 1, 31, 0, 0), (31, .putfield 25, 34, 7, 32), (34, .aload_n 0, 35, 0, 0), (35, .getfield 28, 38, 7, 5), (38, .iconst 0, 39, 0, 0),
  (39, .iconst 1, 40, 0, 0), (40, .iastore, 41, 0, 0), (41, .aload_n 0, 42, 0, 0), (42, .getfield 31, 45, 7, 6), (45, .iconst 0, 46, 0, 0), (46, .bipush 6, 48, 0, 0), (48, .iastore, 49, 0, 0), (49, .aload_n 0, 50, 0, 0),
  (50, .getfield 34, 53, 7, 7), (53, .iconst 0, 54, 0, 0), (54, .iconst 1, 55, 0, 0), (55, .iastore, 56, 0, 0), (56, .return_, 57, 0, 0)]
set_option maxRecDepth 20000 in
/-- 86: StoneHome$Street.clear()V -/
def at_X7_clear : List (Nat × am_I) := [(0, .aload_n 0, 1, 0, 0), (1, .iconst 0, 2, 0, 0), (2, .putfield 9, 5, 7, 0), (5, .aload_n 0, 6, 0, 0), (6, .iconst 0, 7, 0, 0), (7, .putfield 15, 10, 7, 8), (10, .aload_n 0, 11, 0, 0), (11, .getfield 18, 14, 7, 2),
  (14, .iconst (-1), 15, 0, 0), (15, .invokestatic 65, 18, 293, 2), (18, .aload_n 0, 19, 0, 0), (19, .iconst 1, 20, 0, 0), (20, .putfield 22, 23, 7, 24), (23, .aload_n 0, 24, 0, 0), (24, .iconst 0, 25, 0, 0), (25, .putfield 25, 28, 7, 32),
  (28, .aload_n 0, 29, 0, 0), (29, .getfield 31, 32, 7, 6), (32, .bipush 24, 34, 0, 0), (34, .bipush 6, 36, 0, 0), (36, .iastore, 37, 0, 0), (37, .aload_n 0, 38, 0, 0), (38, .getfield 46, 41, 7, 10), (41, .invokevirtual 71, 44, 13, 0),
  (44, .aload_n 0, 45, 0, 0), (45, .getfield 50, 48, 7, 11), (48, .iconst 0, 49, 0, 0), (49, .invokestatic 65, 52, 293, 2), (52, .aload_n 0, 53, 0, 0), (53, .getfield 53, 56, 7, 12), (56, .iconst 0, 57, 0, 0), (57, .invokestatic 65, 60, 293, 2),
  (60, .aload_n 0, 61, 0, 0), (61, .iconst 0, 62, 0, 0), (62, .putfield 56, 65, 7, 104), (65, .aload_n 0, 66, 0, 0), (66, .iconst 5, 67, 0, 0), (67, .putfield 59, 70, 7, 112), (70, .aload_n 0, 71, 0, 0), (71, .iconst 0, 72, 0, 0),
  (72, .putfield 62, 75, 7, 120), (75, .return_, 76, 0, 0)]
set_option maxRecDepth 20000 in
/-- 87: StoneHome$Street.stoneLie()I -/
def at_X7_stoneLie : List (Nat × am_I) := [(0, .aload_n 0, 1, 0, 0), (1, .getfield 50, 4, 7, 11), (4, .iconst 0, 5, 0, 0), (5, .iaload, 6, 0, 0), (6, .aload_n 0, 7, 0, 0), (7, .getfield 50, 10, 7, 11), (10, .iconst 1, 11, 0, 0), (11, .iaload, 12, 0, 0),
  (12, .invokestatic 83, 15, 130, 2), (15, .aload_n 0, 16, 0, 0), (16, .getfield 50, 19, 7, 11), (19, .iconst 2, 20, 0, 0), (20, .iaload, 21, 0, 0), (21, .invokestatic 87, 24, 131, 2), (24, .ireturn, 25, 0, 0)]
set_option maxRecDepth 20000 in
/-- 88: StoneHome$Street.sortOf(I)I -/
def at_X7_sortOf : List (Nat × am_I) := [(0, .iload_n 1, 1, 1, 0), (1, .ifCond .lt 18, 4, 19, 0), (4, .iload_n 1, 5, 1, 0), (5, .bipush 32, 7, 0, 0), (7, .if_icmp .ge 12, 10, 19, 0), (10, .aload_n 0, 11, 0, 0), (11, .getfield 18, 14, 7, 2), (14, .iload_n 1, 15, 1, 0),
  (15, .iaload, 16, 0, 0), (16, .goto 4, 19, 20, 0), (19, .iconst (-1), 20, 0, 0), (20, .ireturn, 21, 0, 0)]
set_option maxRecDepth 20000 in
/-- 89: StoneHome$Street.canLie(I)Z -/
def at_X7_canLie : List (Nat × am_I) := [(0, .aload_n 0, 1, 0, 0), (1, .iload_n 1, 2, 1, 0), (2, .invokevirtual 75, 5, 88, 1), (5, .istore_n 2, 6, 2, 0), (6, .iload_n 2, 7, 2, 0), (7, .iconst (-1), 8, 0, 0), (8, .if_icmp .eq 17, 11, 25, 0), (11, .iload_n 2, 12, 2, 0),
  (12, .iconst 4, 13, 0, 0), (13, .if_icmp .eq 12, 16, 25, 0), (16, .iload_n 2, 17, 2, 0), (17, .iconst 5, 18, 0, 0), (18, .if_icmp .eq 7, 21, 25, 0), (21, .iconst 1, 22, 0, 0), (22, .goto 4, 25, 26, 0), (25, .iconst 0, 26, 0, 0),
  (26, .ireturn, 27, 0, 0)]
set_option maxRecDepth 20000 in
/-- 90: StoneHome$Street.isHomeLie(I)Z -/
def at_X7_isHomeLie : List (Nat × am_I) := [(0, .aload_n 0, 1, 0, 0), (1, .iload_n 1, 2, 1, 0), (2, .iconst 3, 3, 0, 0), (3, .idiv, 4, 0, 0), (4, .invokevirtual 75, 7, 88, 1), (7, .bipush 6, 9, 0, 0), (9, .if_icmp .ne 7, 12, 16, 0), (12, .iconst 1, 13, 0, 0),
  (13, .goto 4, 16, 17, 0), (16, .iconst 0, 17, 0, 0), (17, .ireturn, 18, 0, 0)]
set_option maxRecDepth 20000 in
/-- 91: StoneHome$Street.setSort(III)V -/
def at_X7_setSort : List (Nat × am_I) := [(0, .iload_n 1, 1, 1, 0), (1, .ifCond .lt 30, 4, 31, 0), (4, .iload_n 1, 5, 1, 0), (5, .bipush 8, 7, 0, 0), (7, .if_icmp .ge 24, 10, 31, 0), (10, .iload_n 2, 11, 2, 0), (11, .ifCond .lt 20, 14, 31, 0), (14, .iload_n 2, 15, 2, 0),
  (15, .iconst 4, 16, 0, 0), (16, .if_icmp .ge 15, 19, 31, 0), (19, .aload_n 0, 20, 0, 0), (20, .getfield 18, 23, 7, 2), (23, .iload_n 2, 24, 2, 0), (24, .bipush 8, 26, 0, 0), (26, .imul, 27, 0, 0), (27, .iload_n 1, 28, 1, 0),
  (28, .iadd, 29, 0, 0), (29, .iload_n 3, 30, 3, 0), (30, .iastore, 31, 0, 0), (31, .return_, 32, 0, 0)]
set_option maxRecDepth 20000 in
/-- 92: StoneHome$Street.isWhole()Z -/
def at_X7_isWhole : List (Nat × am_I) := [(0, .aload_n 0, 1, 0, 0), (1, .getfield 15, 4, 7, 1), (4, .ifCond .le 36, 7, 40, 0), (7, .aload_n 0, 8, 0, 0), (8, .getfield 25, 11, 7, 4), (11, .ifCond .le 29, 14, 40, 0), (14, .aload_n 0, 15, 0, 0), (15, .aload_n 0, 16, 0, 0),
  (16, .getfield 50, 19, 7, 11), (19, .invokevirtual 97, 22, 93, 1), (22, .ifCond .eq 18, 25, 40, 0), (25, .aload_n 0, 26, 0, 0), (26, .aload_n 0, 27, 0, 0), (27, .getfield 53, 30, 7, 12), (30, .invokevirtual 97, 33, 93, 1), (33, .ifCond .eq 7, 36, 40, 0),
  (36, .iconst 1, 37, 0, 0), (37, .goto 4, 40, 41, 0), (40, .iconst 0, 41, 0, 0), (41, .ireturn, 42, 0, 0)]
set_option maxRecDepth 20000 in
/-- 93: StoneHome$Street.isSpot([I)Z -/
def at_X7_isSpot : List (Nat × am_I) := [(0, .aload_n 1, 1, 1, 0), (1, .arraylength, 2, 0, 0), (2, .iconst 3, 3, 0, 0), (3, .if_icmp .lt 13, 6, 16, 0), (6, .aload_n 1, 7, 1, 0), (7, .iconst 2, 8, 0, 0), (8, .iaload, 9, 0, 0), (9, .aload_n 0, 10, 0, 0),
  (10, .getfield 22, 13, 7, 3), (13, .if_icmp .lt 5, 16, 18, 0), (16, .iconst 0, 17, 0, 0), (17, .ireturn, 18, 0, 0), (18, .aload_n 0, 19, 0, 0), (19, .aload_n 1, 20, 1, 0), (20, .iconst 0, 21, 0, 0), (21, .iaload, 22, 0, 0),
  (22, .aload_n 1, 23, 1, 0), (23, .iconst 1, 24, 0, 0), (24, .iaload, 25, 0, 0), (25, .invokevirtual 90, 28, 94, 2), (28, .iconst (-1), 29, 0, 0), (29, .if_icmp .eq 23, 32, 52, 0), (32, .aload_n 0, 33, 0, 0), (33, .aload_n 1, 34, 1, 0),
  (34, .iconst 0, 35, 0, 0), (35, .iaload, 36, 0, 0), (36, .aload_n 1, 37, 1, 0), (37, .iconst 1, 38, 0, 0), (38, .iaload, 39, 0, 0), (39, .invokestatic 83, 42, 130, 2), (42, .invokevirtual 93, 45, 89, 1), (45, .ifCond .eq 7, 48, 52, 0),
  (48, .iconst 1, 49, 0, 0), (49, .goto 4, 52, 53, 0), (52, .iconst 0, 53, 0, 0), (53, .ireturn, 54, 0, 0)]
set_option maxRecDepth 20000 in
/-- 94: StoneHome$Street.sortAt(II)I -/
def at_X7_sortAt : List (Nat × am_I) := [(0, .iload_n 1, 1, 1, 0), (1, .ifCond .lt 22, 4, 23, 0), (4, .iload_n 1, 5, 1, 0), (5, .bipush 8, 7, 0, 0), (7, .if_icmp .ge 16, 10, 23, 0), (10, .iload_n 2, 11, 2, 0), (11, .ifCond .lt 12, 14, 23, 0), (14, .iload_n 2, 15, 2, 0),
  (15, .iconst 4, 16, 0, 0), (16, .if_icmp .ge 7, 19, 23, 0), (19, .iconst 1, 20, 0, 0), (20, .goto 4, 23, 24, 0), (23, .iconst 0, 24, 0, 0), (24, .istore_n 3, 25, 3, 0), (25, .iload_n 3, 26, 3, 0), (26, .ifCond .eq 17, 29, 43, 0),
  (29, .aload_n 0, 30, 0, 0), (30, .getfield 18, 33, 7, 2), (33, .iload_n 2, 34, 2, 0), (34, .bipush 8, 36, 0, 0), (36, .imul, 37, 0, 0), (37, .iload_n 1, 38, 1, 0), (38, .iadd, 39, 0, 0), (39, .iaload, 40, 0, 0),
  (40, .goto 4, 43, 44, 0), (43, .iconst (-1), 44, 0, 0), (44, .ireturn, 45, 0, 0)]
set_option maxRecDepth 20000 in
/-- 95: StoneHome$Street.carsCome(II)Z -/
def at_X7_carsCome : List (Nat × am_I) := [(0, .aload_n 0, 1, 0, 0), (1, .getfield 46, 4, 7, 10), (4, .iload_n 1, 5, 1, 0), (5, .invokestatic 101, 8, 138, 1), (8, .iload_n 1, 9, 1, 0), (9, .invokestatic 104, 12, 139, 1), (12, .iconst 0, 13, 0, 0), (13, .aload_n 0, 14, 0, 0),
  (14, .iload_n 1, 15, 1, 0), (15, .invokevirtual 75, 18, 88, 1), (18, .invokevirtual 107, 21, 22, 4), (21, .aload_n 0, 22, 0, 0), (22, .getfield 46, 25, 7, 10), (25, .iconst (-1), 26, 0, 0), (26, .iconst 0, 27, 0, 0), (27, .iload_n 2, 28, 2, 0),
  (28, .invokevirtual 111, 31, 23, 3), (31, .aload_n 0, 32, 0, 0), (32, .getfield 46, 35, 7, 10), (35, .iconst 2, 36, 0, 0), (36, .invokevirtual 115, 39, 24, 1), (39, .ifCond .le 7, 42, 46, 0), (42, .iconst 1, 43, 0, 0), (43, .goto 4, 46, 47, 0),
  (46, .iconst 0, 47, 0, 0), (47, .ireturn, 48, 0, 0)]
set_option maxRecDepth 20000 in
/-- 96: StoneHome$Street.hasKick(I)Z -/
def at_X7_hasKick : List (Nat × am_I) := [(0, .iload_n 1, 1, 1, 0), (1, .ifCond .lt 15, 4, 16, 0), (4, .iload_n 1, 5, 1, 0), (5, .aload_n 0, 6, 0, 0), (6, .getfield 25, 9, 7, 4), (9, .if_icmp .ge 7, 12, 16, 0), (12, .iconst 1, 13, 0, 0), (13, .goto 4, 16, 17, 0),
  (16, .iconst 0, 17, 0, 0), (17, .ireturn, 18, 0, 0)]
set_option maxRecDepth 20000 in
/-- 97: StoneHome$Street.canKickFrom(II)Z -/
def at_X7_canKickFrom : List (Nat × am_I) := [(0, .iload_n 2, 1, 2, 0), (1, .ifCond .lt 31, 4, 32, 0), (4, .iload_n 2, 5, 2, 0), (5, .aload_n 0, 6, 0, 0), (6, .getfield 25, 9, 7, 4), (9, .if_icmp .ge 23, 12, 32, 0), (12, .iload_n 1, 13, 1, 0), (13, .ifCond .lt 19, 16, 32, 0),
  (16, .iload_n 1, 17, 1, 0), (17, .bipush 32, 19, 0, 0), (19, .if_icmp .ge 13, 22, 32, 0), (22, .aload_n 0, 23, 0, 0), (23, .getfield 18, 26, 7, 2), (26, .iload_n 1, 27, 1, 0), (27, .iaload, 28, 0, 0), (28, .iconst (-1), 29, 0, 0),
  (29, .if_icmp .ne 5, 32, 34, 0), (32, .iconst 0, 33, 0, 0), (33, .ireturn, 34, 0, 0), (34, .aload_n 0, 35, 0, 0), (35, .getfield 18, 38, 7, 2), (38, .iload_n 1, 39, 1, 0), (39, .iaload, 40, 0, 0), (40, .iconst 3, 41, 0, 0),
  (41, .if_icmp .lt 23, 44, 64, 0), (44, .aload_n 0, 45, 0, 0), (45, .getfield 18, 48, 7, 2), (48, .iload_n 1, 49, 1, 0), (49, .iaload, 50, 0, 0), (50, .iconst 3, 51, 0, 0), (51, .if_icmp .ne 17, 54, 68, 0), (54, .aload_n 0, 55, 0, 0),
  (55, .getfield 28, 58, 7, 5), (58, .iload_n 2, 59, 2, 0), (59, .iaload, 60, 0, 0), (60, .iconst 1, 61, 0, 0), (61, .if_icmp .ne 7, 64, 68, 0), (64, .iconst 1, 65, 0, 0), (65, .goto 4, 68, 69, 0), (68, .iconst 0, 69, 0, 0),
  (69, .ireturn, 70, 0, 0)]
set_option maxRecDepth 20000 in
/-- 98: StoneHome$Street.drawnWay(II)I -/
def at_X7_drawnWay : List (Nat × am_I) := [(0, .aload_n 0, 1, 0, 0), (1, .iload_n 2, 2, 2, 0), (2, .invokevirtual 132, 5, 99, 1), (5, .istore_n 3, 6, 3, 0), (6, .iconst 0, 7, 0, 0), (7, .istore 4, 9, 4, 0), (9, .aload_n 0, 10, 0, 0), (10, .iload_n 1, 11, 1, 0),
  (11, .invokevirtual 135, 14, 101, 1), (14, .istore 5, 16, 5, 0), (16, .aload_n 0, 17, 0, 0), (17, .iload_n 1, 18, 1, 0), (18, .invokevirtual 138, 21, 102, 1), (21, .istore 6, 23, 6, 0), (23, .iload 5, 25, 5, 0), (25, .istore 7, 27, 7, 0),
  (27, .iload 7, 29, 7, 0), (29, .iload 6, 31, 6, 0), (31, .if_icmp .ge 29, 34, 60, 0), (34, .iload 4, 36, 4, 0), (36, .aload_n 0, 37, 0, 0), (37, .iload 7, 39, 7, 0), (39, .invokevirtual 141, 42, 103, 1), (42, .iadd, 43, 0, 0),
  (43, .istore 4, 45, 4, 0), (45, .iload 4, 47, 4, 0), (47, .iload_n 3, 48, 3, 0), (48, .if_icmp .le 6, 51, 54, 0), (51, .iload 7, 53, 7, 0), (53, .ireturn, 54, 0, 0), (54, .iinc 7 1, 57, 7, 0), (57, .goto (-30), 60, 27, 0),
  (60, .iload 5, 62, 5, 0), (62, .ireturn, 63, 0, 0)]
set_option maxRecDepth 20000 in
/-- 99: StoneHome$Street.lotOfSix(I)I -/
def at_X7_lotOfSix : List (Nat × am_I) := [(0, .aload_n 0, 1, 0, 0), (1, .getfield 62, 4, 7, 15), (4, .bipush 55, 6, 0, 0), (6, .invokestatic 144, 9, 100, 2), (9, .iload_n 1, 10, 1, 0), (10, .invokestatic 144, 13, 100, 2), (13, .istore_n 2, 14, 2, 0), (14, .iload_n 2, 15, 2, 0),
  (15, .iconst 1, 16, 0, 0), (16, .iushr, 17, 0, 0), (17, .bipush 6, 19, 0, 0), (19, .irem, 20, 0, 0), (20, .ireturn, 21, 0, 0)]
set_option maxRecDepth 20000 in
/-- 100: StoneHome$Street.mix(II)I -/
def at_X7_mix : List (Nat × am_I) := [(0, .iload_n 0, 1, 0, 0), (1, .iload_n 1, 2, 1, 0), (2, .ixor, 3, 0, 0), (3, .ldc 147, 5, 0, 1103515245), (5, .imul, 6, 0, 0), (6, .sipush 12345, 9, 0, 0), (9, .iadd, 10, 0, 0), (10, .istore_n 2, 11, 2, 0),
  (11, .iload_n 2, 12, 2, 0), (12, .iload_n 2, 13, 2, 0), (13, .bipush 15, 15, 0, 0), (15, .iushr, 16, 0, 0), (16, .ixor, 17, 0, 0), (17, .ireturn, 18, 0, 0)]
set_option maxRecDepth 20000 in
/-- 101: StoneHome$Street.firstWay(I)I -/
def at_X7_firstWay : List (Nat × am_I) := [(0, .iload_n 1, 1, 1, 0), (1, .aload_n 0, 2, 0, 0), (2, .getfield 25, 5, 7, 4), (5, .if_icmp .ne 8, 8, 13, 0), (8, .bipush 24, 10, 0, 0), (10, .goto 7, 13, 17, 0), (13, .iload_n 1, 14, 1, 0), (14, .bipush 6, 16, 0, 0),
  (16, .imul, 17, 0, 0), (17, .ireturn, 18, 0, 0)]
set_option maxRecDepth 20000 in
/-- 102: StoneHome$Street.endOfWays(I)I -/
def at_X7_endOfWays : List (Nat × am_I) := [(0, .iload_n 1, 1, 1, 0), (1, .ifCond .lt 11, 4, 12, 0), (4, .iload_n 1, 5, 1, 0), (5, .aload_n 0, 6, 0, 0), (6, .getfield 25, 9, 7, 4), (9, .if_icmp .lt 6, 12, 15, 0), (12, .bipush 25, 14, 0, 0), (14, .ireturn, 15, 0, 0),
  (15, .iload_n 1, 16, 1, 0), (16, .bipush 6, 18, 0, 0), (18, .imul, 19, 0, 0), (19, .aload_n 0, 20, 0, 0), (20, .getfield 28, 23, 7, 5), (23, .iload_n 1, 24, 1, 0), (24, .iaload, 25, 0, 0), (25, .iadd, 26, 0, 0),
  (26, .ireturn, 27, 0, 0)]
set_option maxRecDepth 20000 in
/-- 103: StoneHome$Street.sixthsOf(I)I -/
def at_X7_sixthsOf : List (Nat × am_I) := [(0, .iload_n 1, 1, 1, 0), (1, .ifCond .lt 18, 4, 19, 0), (4, .iload_n 1, 5, 1, 0), (5, .bipush 25, 7, 0, 0), (7, .if_icmp .ge 12, 10, 19, 0), (10, .aload_n 0, 11, 0, 0), (11, .getfield 31, 14, 7, 6), (14, .iload_n 1, 15, 1, 0),
  (15, .iaload, 16, 0, 0), (16, .goto 4, 19, 20, 0), (19, .iconst 0, 20, 0, 0), (20, .ireturn, 21, 0, 0)]
set_option maxRecDepth 20000 in
/-- 104: StoneHome$Street.landing(III)I -/
def at_X7_landing : List (Nat × am_I) := [(0, .iload_n 1, 1, 1, 0), (1, .iconst 3, 2, 0, 0), (2, .idiv, 3, 0, 0), (3, .istore 4, 5, 4, 0), (5, .iload_n 2, 6, 2, 0), (6, .bipush 24, 8, 0, 0), (8, .if_icmp .ne 24, 11, 32, 0), (11, .aload_n 0, 12, 0, 0),
  (12, .iload 4, 14, 4, 0), (14, .iload_n 3, 15, 3, 0), (15, .aload_n 0, 16, 0, 0), (16, .getfield 59, 19, 7, 14), (19, .iadd, 20, 0, 0), (20, .invokevirtual 118, 23, 95, 2), (23, .ifCond .eq 7, 26, 30, 0), (26, .iconst (-1), 27, 0, 0),
  (27, .goto 4, 30, 31, 0), (30, .iload_n 1, 31, 1, 0), (31, .ireturn, 32, 0, 0), (32, .iload_n 2, 33, 2, 0), (33, .ifCond .lt 17, 36, 50, 0), (36, .iload_n 2, 37, 2, 0), (37, .bipush 24, 39, 0, 0), (39, .if_icmp .ge 11, 42, 50, 0),
  (42, .aload_n 0, 43, 0, 0), (43, .getfield 22, 46, 7, 3), (46, .iconst 1, 47, 0, 0), (47, .if_icmp .ge 5, 50, 52, 0), (50, .iconst (-1), 51, 0, 0), (51, .ireturn, 52, 0, 0), (52, .iload_n 1, 53, 1, 0), (53, .iconst 3, 54, 0, 0),
  (54, .irem, 55, 0, 0), (55, .istore 5, 57, 5, 0), (57, .aload_n 0, 58, 0, 0), (58, .getfield 46, 61, 7, 10), (61, .iload 4, 63, 4, 0), (63, .invokestatic 101, 66, 138, 1), (66, .iload 4, 68, 4, 0), (68, .invokestatic 104, 71, 139, 1),
  (71, .iload 5, 73, 5, 0), (73, .aload_n 0, 74, 0, 0), (74, .iload 4, 76, 4, 0), (76, .invokevirtual 75, 79, 88, 1), (79, .invokevirtual 107, 82, 22, 4), (82, .aload_n 0, 83, 0, 0), (83, .getfield 46, 86, 7, 10), (86, .iload_n 2, 87, 2, 0),
  (87, .bipush 6, 89, 0, 0), (89, .idiv, 90, 0, 0), (90, .aload_n 0, 91, 0, 0), (91, .getfield 34, 94, 7, 7), (94, .iload_n 2, 95, 2, 0), (95, .iaload, 96, 0, 0), (96, .iload_n 3, 97, 3, 0), (97, .invokevirtual 111, 100, 23, 3),
  (100, .iload 4, 102, 4, 0), (102, .invokestatic 101, 105, 138, 1), (105, .aload_n 0, 106, 0, 0), (106, .getfield 34, 109, 7, 7), (109, .iload_n 2, 110, 2, 0), (110, .iaload, 111, 0, 0), (111, .iadd, 112, 0, 0), (112, .aload_n 0, 113, 0, 0),
  (113, .getfield 46, 116, 7, 10), (116, .iconst 1, 117, 0, 0), (117, .invokevirtual 115, 120, 24, 1), (120, .iconst 4, 121, 0, 0), (121, .invokestatic 121, 124, 145, 2), (124, .iadd, 125, 0, 0), (125, .istore 6, 127, 6, 0), (127, .iload 4, 129, 4, 0),
  (129, .invokestatic 104, 132, 139, 1), (132, .aload_n 0, 133, 0, 0), (133, .getfield 37, 136, 7, 8), (136, .iload_n 2, 137, 2, 0), (137, .iaload, 138, 0, 0), (138, .iadd, 139, 0, 0), (139, .aload_n 0, 140, 0, 0), (140, .getfield 46, 143, 7, 10),
  (143, .iconst 0, 144, 0, 0), (144, .invokevirtual 115, 147, 24, 1), (147, .iconst 2, 148, 0, 0), (148, .invokestatic 121, 151, 145, 2), (151, .iadd, 152, 0, 0), (152, .istore 7, 154, 7, 0), (154, .iload 5, 156, 5, 0), (156, .aload_n 0, 157, 0, 0),
  (157, .getfield 40, 160, 7, 9), (160, .iload_n 2, 161, 2, 0), (161, .iaload, 162, 0, 0), (162, .iadd, 163, 0, 0), (163, .aload_n 0, 164, 0, 0), (164, .getfield 22, 167, 7, 3), (167, .irem, 168, 0, 0), (168, .istore 8, 170, 8, 0),
  (170, .iconst 0, 171, 0, 0), (171, .aload_n 0, 172, 0, 0), (172, .getfield 9, 175, 7, 0), (175, .iconst 1, 176, 0, 0), (176, .isub, 177, 0, 0), (177, .iload 6, 179, 6, 0), (179, .invokestatic 124, 182, 997, 2), (182, .invokestatic 129, 185, 996, 2),
  (185, .istore 6, 187, 6, 0), (187, .aload_n 0, 188, 0, 0), (188, .iload 6, 190, 6, 0), (190, .iload 7, 192, 7, 0), (192, .invokevirtual 90, 195, 94, 2), (195, .istore 9, 197, 9, 0), (197, .iload 9, 199, 9, 0), (199, .iconst 5, 200, 0, 0),
  (200, .if_icmp .ne 11, 203, 211, 0), (203, .iload 4, 205, 4, 0), (205, .iload 8, 207, 8, 0), (207, .invokestatic 87, 210, 131, 2), (210, .ireturn, 211, 0, 0), (211, .iload 9, 213, 9, 0), (213, .iconst (-1), 214, 0, 0), (214, .if_icmp .eq 9, 217, 223, 0),
  (217, .iload 9, 219, 9, 0), (219, .iconst 4, 220, 0, 0), (220, .if_icmp .ne 5, 223, 225, 0), (223, .iconst (-1), 224, 0, 0), (224, .ireturn, 225, 0, 0), (225, .iload 6, 227, 6, 0), (227, .iload 7, 229, 7, 0), (229, .invokestatic 83, 232, 130, 2),
  (232, .istore 10, 234, 10, 0), (234, .iload 9, 236, 9, 0), (236, .bipush 6, 238, 0, 0), (238, .if_icmp .eq 20, 241, 258, 0), (241, .aload_n 0, 242, 0, 0), (242, .iload 10, 244, 10, 0), (244, .iload_n 3, 245, 3, 0), (245, .aload_n 0, 246, 0, 0),
  (246, .getfield 59, 249, 7, 14), (249, .iadd, 250, 0, 0), (250, .invokevirtual 118, 253, 95, 2), (253, .ifCond .eq 5, 256, 258, 0), (256, .iconst (-1), 257, 0, 0), (257, .ireturn, 258, 0, 0), (258, .iload 10, 260, 10, 0), (260, .iload 8, 262, 8, 0),
  (262, .invokestatic 87, 265, 131, 2), (265, .ireturn, 266, 0, 0)]
set_option maxRecDepth 20000 in
/-- 105: StoneHome$Street.hasOutcome(II)Z -/
def at_X7_hasOutcome : List (Nat × am_I) := [(0, .iload_n 1, 1, 1, 0), (1, .ifCond .lt 29, 4, 30, 0), (4, .iload_n 1, 5, 1, 0), (5, .aload_n 0, 6, 0, 0), (6, .getfield 25, 9, 7, 4), (9, .if_icmp .ge 21, 12, 30, 0), (12, .iload_n 2, 13, 2, 0), (13, .ifCond .lt 17, 16, 30, 0),
  (16, .iload_n 2, 17, 2, 0), (17, .aload_n 0, 18, 0, 0), (18, .getfield 28, 21, 7, 5), (21, .iload_n 1, 22, 1, 0), (22, .iaload, 23, 0, 0), (23, .if_icmp .ge 7, 26, 30, 0), (26, .iconst 1, 27, 0, 0), (27, .goto 4, 30, 31, 0),
  (30, .iconst 0, 31, 0, 0), (31, .ireturn, 32, 0, 0)]
set_option maxRecDepth 20000 in
/-- 106: StoneHome$Street.canDoFrom(II)Z -/
def at_X7_canDoFrom : List (Nat × am_I) := [(0, .iload_n 2, 1, 2, 0), (1, .aload_n 0, 2, 0, 0), (2, .getfield 25, 5, 7, 4), (5, .if_icmp .eq 12, 8, 17, 0), (8, .aload_n 0, 9, 0, 0), (9, .iload_n 1, 10, 1, 0), (10, .iload_n 2, 11, 2, 0), (11, .invokevirtual 79, 14, 97, 2),
  (14, .ifCond .eq 7, 17, 21, 0), (17, .iconst 1, 18, 0, 0), (18, .goto 4, 21, 22, 0), (21, .iconst 0, 22, 0, 0), (22, .ireturn, 23, 0, 0)]
set_option maxRecDepth 20000 in
/-- 107: StoneHome$Street.friendLie()I -/
def at_X7_friendLie : List (Nat × am_I) := [(0, .aload_n 0, 1, 0, 0), (1, .getfield 53, 4, 7, 12), (4, .iconst 0, 5, 0, 0), (5, .iaload, 6, 0, 0), (6, .aload_n 0, 7, 0, 0), (7, .getfield 53, 10, 7, 12), (10, .iconst 1, 11, 0, 0), (11, .iaload, 12, 0, 0),
  (12, .invokestatic 83, 15, 130, 2), (15, .aload_n 0, 16, 0, 0), (16, .getfield 53, 19, 7, 12), (19, .iconst 2, 20, 0, 0), (20, .iaload, 21, 0, 0), (21, .invokestatic 87, 24, 131, 2), (24, .ireturn, 25, 0, 0)]
set_option maxRecDepth 20000 in
/-- 108: StoneHome$Street.homeSquares()I -/
def at_X7_homeSquares : List (Nat × am_I) := [(0, .iconst 0, 1, 0, 0), (1, .istore_n 1, 2, 1, 0), (2, .iconst 0, 3, 0, 0), (3, .istore_n 2, 4, 2, 0), (4, .iload_n 2, 5, 2, 0), (5, .bipush 32, 7, 0, 0), (7, .if_icmp .ge 22, 10, 29, 0), (10, .aload_n 0, 11, 0, 0),
  (11, .iload_n 2, 12, 2, 0), (12, .invokevirtual 75, 15, 88, 1), (15, .bipush 6, 17, 0, 0), (17, .if_icmp .ne 6, 20, 23, 0), (20, .iinc 1 1, 23, 1, 0), (23, .iinc 2 1, 26, 2, 0), (26, .goto (-22), 29, 4, 0), (29, .iload_n 1, 30, 1, 0),
  (30, .ireturn, 31, 0, 0)]
set_option maxRecDepth 20000 in
/-- 109: StoneHome$Street.allOutcomes()I -/
def at_X7_allOutcomes : List (Nat × am_I) := [(0, .iconst 0, 1, 0, 0), (1, .istore_n 1, 2, 1, 0), (2, .iconst 0, 3, 0, 0), (3, .istore_n 2, 4, 2, 0), (4, .iload_n 2, 5, 2, 0), (5, .aload_n 0, 6, 0, 0), (6, .getfield 25, 9, 7, 4), (9, .if_icmp .ge 23, 12, 32, 0),
  (12, .iload_n 2, 13, 2, 0), (13, .iconst 4, 14, 0, 0), (14, .if_icmp .ge 18, 17, 32, 0), (17, .iload_n 1, 18, 1, 0), (18, .aload_n 0, 19, 0, 0), (19, .getfield 28, 22, 7, 5), (22, .iload_n 2, 23, 2, 0), (23, .iaload, 24, 0, 0),
  (24, .iadd, 25, 0, 0), (25, .istore_n 1, 26, 1, 0), (26, .iinc 2 1, 29, 2, 0), (29, .goto (-25), 32, 4, 0), (32, .iload_n 1, 33, 1, 0), (33, .ireturn, 34, 0, 0)]
set_option maxRecDepth 20000 in
/-- 110: StoneHome$Table.<init>(LStoneHome$Street;)V -/
def at_X8_init : List (Nat × am_I) := [(0, .aload_n 0, 1, 0, 0), (1, .invokespecial 3, 4, 999, 0), (4, .aload_n 0, 5, 0, 0), (5, .bipush 16, 7, 0, 0), (7, .anewarray 11, 10, 5, 0), (10, .putfield 13, 13, 8, 14), (13, .aload_n 0, 14, 0, 0), (14, .bipush 16, 16, 0, 0),
  (16, .newarray .int, 18, 0, 0), (18, .putfield 17, 21, 8, 22), (21, .aload_n 0, 22, 0, 0), (22, .sipush 2400, 25, 0, 0), (25, .newarray .int, 27, 0, 0), (27, .putfield 20, 30, 8, 26), (30, .aload_n 0, 31, 0, 0), (31, .bipush 96, 33, 0, 0),
  (33, .newarray .int, 35, 0, 0), (35, .putfield 23, 38, 8, 38), (38, .aload_n 0, 39, 0, 0), (39, .iconst 0, 40, 0, 0), (40, .putfield 26, 43, 8, 40), (43, .aload_n 0, 44, 0, 0), (44, .iconst 0, 45, 0, 0), (45, .putfield 30, 48, 8, 48),
  (48, .aload_n 0, 49, 0, 0), (49, .aload_n 1, 50, 1, 0), (50, .putfield 33, 53, 8, 2), (53, .aload_n 0, 54, 0, 0), (54, .getfield 13, 57, 8, 1), (57, .iconst 0, 58, 0, 0), (58, .aload_n 0, 59, 0, 0), (59, .getfield 20, 62, 8, 3),
  (62, .aastore, 63, 0, 0), (63, .return_, 64, 0, 0)]
set_option maxRecDepth 20000 in
/-- 111: StoneHome$Table.follow(LStoneHome$Street;)V -/
def at_X8_follow : List (Nat × am_I) := [(0, .aload_n 0, 1, 0, 0), (1, .aload_n 1, 2, 1, 0), (2, .putfield 33, 5, 8, 2), (5, .aload_n 0, 6, 0, 0), (6, .getfield 17, 9, 8, 2), (9, .iconst (-1), 10, 0, 0), (10, .invokestatic 37, 13, 293, 2), (13, .aload_n 0, 14, 0, 0),
  (14, .iconst 0, 15, 0, 0), (15, .putfield 30, 18, 8, 48), (18, .aload_n 0, 19, 0, 0), (19, .iconst 0, 20, 0, 0), (20, .invokevirtual 43, 23, 112, 1), (23, .aload_n 0, 24, 0, 0), (24, .aload_n 0, 25, 0, 0), (25, .getfield 30, 28, 8, 6),
  (28, .putfield 26, 31, 8, 40), (31, .aload_n 0, 32, 0, 0), (32, .iconst 1, 33, 0, 0), (33, .invokevirtual 43, 36, 112, 1), (36, .return_, 37, 0, 0)]
set_option maxRecDepth 20000 in
/-- 112: StoneHome$Table.listLies(Z)V -/
def at_X8_listLies : List (Nat × am_I) := [(0, .iconst 0, 1, 0, 0), (1, .istore_n 2, 2, 2, 0), (2, .iload_n 2, 3, 2, 0), (3, .bipush 96, 5, 0, 0), (5, .if_icmp .ge 67, 8, 72, 0), (8, .iload_n 2, 9, 2, 0), (9, .iconst 3, 10, 0, 0), (10, .irem, 11, 0, 0),
  (11, .aload_n 0, 12, 0, 0), (12, .getfield 33, 15, 8, 0), (15, .getfield 47, 18, 7, 3), (18, .if_icmp .ge 48, 21, 66, 0), (21, .aload_n 0, 22, 0, 0), (22, .getfield 33, 25, 8, 0), (25, .iload_n 2, 26, 2, 0), (26, .iconst 3, 27, 0, 0),
  (27, .idiv, 28, 0, 0), (28, .invokevirtual 52, 31, 89, 1), (31, .ifCond .eq 35, 34, 66, 0), (34, .aload_n 0, 35, 0, 0), (35, .getfield 33, 38, 8, 0), (38, .iload_n 2, 39, 2, 0), (39, .invokevirtual 56, 42, 90, 1), (42, .iload_n 1, 43, 1, 0),
  (43, .if_icmp .ne 23, 46, 66, 0), (46, .aload_n 0, 47, 0, 0), (47, .getfield 23, 50, 8, 4), (50, .aload_n 0, 51, 0, 0), (51, .getfield 30, 54, 8, 6), (54, .iload_n 2, 55, 2, 0), (55, .iastore, 56, 0, 0), (56, .aload_n 0, 57, 0, 0),
  (57, .dup, 58, 0, 0), (58, .getfield 30, 61, 8, 6), (61, .iconst 1, 62, 0, 0), (62, .iadd, 63, 0, 0), (63, .putfield 30, 66, 8, 48), (66, .iinc 2 1, 69, 2, 0), (69, .goto (-67), 72, 2, 0), (72, .return_, 73, 0, 0)]
set_option maxRecDepth 20000 in
/-- 113: StoneHome$Table.stepThatCounts(I)I -/
def at_X8_stepThatCounts : List (Nat × am_I) := [(0, .aload_n 0, 1, 0, 0), (1, .getfield 33, 4, 8, 0), (4, .getfield 59, 7, 7, 10), (7, .invokevirtual 63, 10, 27, 0), (10, .ifCond .eq 7, 13, 17, 0), (13, .iload_n 1, 14, 1, 0), (14, .goto 4, 17, 18, 0), (17, .iconst 0, 18, 0, 0),
  (18, .ireturn, 19, 0, 0)]
set_option maxRecDepth 20000 in
/-- 114: StoneHome$Table.turnTo(I)V -/
def at_X8_turnTo : List (Nat × am_I) := [(0, .aload_n 0, 1, 0, 0), (1, .iload_n 1, 2, 1, 0), (2, .invokevirtual 69, 5, 113, 1), (5, .istore_n 2, 6, 2, 0), (6, .iload_n 2, 7, 2, 0), (7, .bipush 16, 9, 0, 0), (9, .irem, 10, 0, 0), (10, .istore_n 3, 11, 3, 0),
  (11, .iload_n 3, 12, 3, 0), (12, .ifCond .ge 4, 15, 16, 0), (15, .return_, 16, 0, 0), (16, .aload_n 0, 17, 0, 0), (17, .getfield 13, 20, 8, 1), (20, .iload_n 3, 21, 3, 0), (21, .aaload, 22, 5, 0), (22, .ifnonnull 14, 25, 36, 0),
  (25, .aload_n 0, 26, 0, 0), (26, .getfield 13, 29, 8, 1), (29, .iload_n 3, 30, 3, 0), (30, .sipush 2400, 33, 0, 0), (33, .newarray .int, 35, 0, 0), (35, .aastore, 36, 0, 0), (36, .aload_n 0, 37, 0, 0), (37, .aload_n 0, 38, 0, 0),
  (38, .getfield 13, 41, 8, 1), (41, .iload_n 3, 42, 3, 0), (42, .aaload, 43, 5, 0), (43, .putfield 20, 46, 8, 26), (46, .aload_n 0, 47, 0, 0), (47, .getfield 17, 50, 8, 2), (50, .iload_n 3, 51, 3, 0), (51, .iaload, 52, 0, 0),
  (52, .iload_n 2, 53, 2, 0), (53, .if_icmp .ne 7, 56, 60, 0), (56, .iconst 0, 57, 0, 0), (57, .goto 7, 60, 64, 0), (60, .aload_n 0, 61, 0, 0), (61, .getfield 26, 64, 8, 5), (64, .istore 4, 66, 4, 0), (66, .aload_n 0, 67, 0, 0),
  (67, .getfield 17, 70, 8, 2), (70, .iload_n 3, 71, 3, 0), (71, .iload_n 2, 72, 2, 0), (72, .iastore, 73, 0, 0), (73, .iconst 0, 74, 0, 0), (74, .istore 5, 76, 5, 0), (76, .iload 5, 78, 5, 0), (78, .iload 4, 80, 4, 0),
  (80, .if_icmp .ge 127, 83, 207, 0), (83, .aload_n 0, 84, 0, 0), (84, .getfield 23, 87, 8, 4), (87, .iload 5, 89, 5, 0), (89, .iaload, 90, 0, 0), (90, .istore 6, 92, 6, 0), (92, .iconst 0, 93, 0, 0), (93, .istore 7, 95, 7, 0),
  (95, .iload 7, 97, 7, 0), (97, .aload_n 0, 98, 0, 0), (98, .getfield 33, 101, 8, 0), (101, .getfield 73, 104, 7, 4), (104, .if_icmp .gt 97, 107, 201, 0), (107, .aload_n 0, 108, 0, 0), (108, .getfield 33, 111, 8, 0), (111, .iload 6, 113, 6, 0),
  (113, .iconst 3, 114, 0, 0), (114, .idiv, 115, 0, 0), (115, .iload 7, 117, 7, 0), (117, .invokevirtual 76, 120, 106, 2), (120, .ifCond .eq 15, 123, 135, 0), (123, .aload_n 0, 124, 0, 0), (124, .getfield 33, 127, 8, 0), (127, .iload 7, 129, 7, 0),
  (129, .invokevirtual 80, 132, 102, 1), (132, .goto 4, 135, 136, 0), (135, .iconst 0, 136, 0, 0), (136, .istore 8, 138, 8, 0), (138, .aload_n 0, 139, 0, 0), (139, .getfield 33, 142, 8, 0), (142, .iload 7, 144, 7, 0), (144, .invokevirtual 83, 147, 101, 1),
  (147, .istore 9, 149, 9, 0), (149, .iload 9, 151, 9, 0), (151, .iload 8, 153, 8, 0), (153, .if_icmp .ge 42, 156, 195, 0), (156, .aload_n 0, 157, 0, 0), (157, .getfield 20, 160, 8, 3), (160, .iload 6, 162, 6, 0), (162, .bipush 25, 164, 0, 0),
  (164, .imul, 165, 0, 0), (165, .iload 9, 167, 9, 0), (167, .iadd, 168, 0, 0), (168, .aload_n 0, 169, 0, 0), (169, .getfield 33, 172, 8, 0), (172, .iload 6, 174, 6, 0), (174, .iload 9, 176, 9, 0), (176, .iload_n 2, 177, 2, 0),
  (177, .aload_n 0, 178, 0, 0), (178, .getfield 33, 181, 8, 0), (181, .getfield 86, 184, 7, 14), (184, .imul, 185, 0, 0), (185, .invokevirtual 89, 188, 104, 3), (188, .iastore, 189, 0, 0), (189, .iinc 9 1, 192, 9, 0), (192, .goto (-43), 195, 149, 0),
  (195, .iinc 7 1, 198, 7, 0), (198, .goto (-103), 201, 95, 0), (201, .iinc 5 1, 204, 5, 0), (204, .goto (-128), 207, 76, 0), (207, .return_, 208, 0, 0)]
set_option maxRecDepth 20000 in
/-- 115: StoneHome$Table.landing(II)I -/
def at_X8_landing : List (Nat × am_I) := [(0, .iload_n 1, 1, 1, 0), (1, .bipush 25, 3, 0, 0), (3, .imul, 4, 0, 0), (4, .iload_n 2, 5, 2, 0), (5, .iadd, 6, 0, 0), (6, .istore_n 3, 7, 3, 0), (7, .iload_n 3, 8, 3, 0), (8, .ifCond .lt 21, 11, 29, 0),
  (11, .iload_n 3, 12, 3, 0), (12, .aload_n 0, 13, 0, 0), (13, .getfield 20, 16, 8, 3), (16, .arraylength, 17, 0, 0), (17, .if_icmp .ge 12, 20, 29, 0), (20, .aload_n 0, 21, 0, 0), (21, .getfield 20, 24, 8, 3), (24, .iload_n 3, 25, 3, 0),
  (25, .iaload, 26, 0, 0), (26, .goto 4, 29, 30, 0), (29, .iconst (-1), 30, 0, 0), (30, .ireturn, 31, 0, 0)]
set_option maxRecDepth 20000 in
/-- 116: StoneHome$Tokens.<init>([B)V -/
def at_X9_init : List (Nat × am_I) := [(0, .aload_n 0, 1, 0, 0), (1, .invokespecial 3, 4, 999, 0), (4, .aload_n 0, 5, 0, 0), (5, .sipush 401, 8, 0, 0), (8, .newarray .int, 10, 0, 0), (10, .putfield 11, 13, 9, 6), (13, .aload_n 0, 14, 0, 0), (14, .sipush 401, 17, 0, 0),
  (17, .newarray .int, 19, 0, 0), (19, .putfield 15, 22, 9, 14), (22, .aload_n 0, 23, 0, 0), (23, .sipush 401, 26, 0, 0), (26, .newarray .int, 28, 0, 0), (28, .putfield 18, 31, 9, 22), (31, .aload_n 0, 32, 0, 0), (32, .iconst 0, 33, 0, 0),
  (33, .putfield 21, 36, 9, 32), (36, .aload_n 0, 37, 0, 0), (37, .iconst 0, 38, 0, 0), (38, .putfield 25, 41, 9, 40), (41, .aload_n 0, 42, 0, 0), (42, .iconst 0, 43, 0, 0), (43, .putfield 28, 46, 9, 48), (46, .aload_n 0, 47, 0, 0),
  (47, .iconst 0, 48, 0, 0), (48, .putfield 31, 51, 9, 56), (51, .aload_n 0, 52, 0, 0), (52, .aload_n 1, 53, 1, 0), (53, .putfield 34, 56, 9, 30), (56, .return_, 57, 0, 0)]
set_option maxRecDepth 20000 in
/-- 117: StoneHome$Tokens.scan(I)V -/
def at_X9_scan : List (Nat × am_I) := [(0, .aload_n 0, 1, 0, 0), (1, .iconst 0, 2, 0, 0), (2, .iload_n 1, 3, 1, 0), (3, .aload_n 0, 4, 0, 0), (4, .getfield 34, 7, 9, 3), (7, .arraylength, 8, 0, 0), (8, .invokestatic 38, 11, 997, 2), (11, .invokestatic 44, 14, 996, 2),
  (14, .putfield 21, 17, 9, 32), (17, .aload_n 0, 18, 0, 0), (18, .iconst 0, 19, 0, 0), (19, .putfield 25, 22, 9, 40), (22, .iconst 0, 23, 0, 0), (23, .istore_n 2, 24, 2, 0), (24, .iload_n 2, 25, 2, 0), (25, .sipush 401, 28, 0, 0),
  (28, .if_icmp .ge 47, 31, 75, 0), (31, .aload_n 0, 32, 0, 0), (32, .invokevirtual 47, 35, 118, 0), (35, .aload_n 0, 36, 0, 0), (36, .getfield 15, 39, 9, 1), (39, .iload_n 2, 40, 2, 0), (40, .aload_n 0, 41, 0, 0), (41, .getfield 25, 44, 9, 5),
  (44, .iastore, 45, 0, 0), (45, .aload_n 0, 46, 0, 0), (46, .invokevirtual 50, 49, 120, 0), (49, .aload_n 0, 50, 0, 0), (50, .getfield 11, 53, 9, 0), (53, .iload_n 2, 54, 2, 0), (54, .aload_n 0, 55, 0, 0), (55, .getfield 28, 58, 9, 6),
  (58, .iastore, 59, 0, 0), (59, .aload_n 0, 60, 0, 0), (60, .getfield 18, 63, 9, 2), (63, .iload_n 2, 64, 2, 0), (64, .aload_n 0, 65, 0, 0), (65, .getfield 31, 68, 9, 7), (68, .iastore, 69, 0, 0), (69, .iinc 2 1, 72, 2, 0),
  (72, .goto (-48), 75, 24, 0), (75, .return_, 76, 0, 0)]
set_option maxRecDepth 20000 in
/-- 118: StoneHome$Tokens.skipBlanks()V -/
def at_X9_skipBlanks : List (Nat × am_I) := [(0, .aload_n 0, 1, 0, 0), (1, .getfield 25, 4, 9, 5), (4, .aload_n 0, 5, 0, 0), (5, .getfield 21, 8, 9, 4), (8, .if_icmp .ge 31, 11, 39, 0), (11, .aload_n 0, 12, 0, 0), (12, .getfield 34, 15, 9, 3), (15, .aload_n 0, 16, 0, 0),
  (16, .getfield 25, 19, 9, 5), (19, .baload, 20, 1, 0), (20, .invokestatic 57, 23, 119, 1), (23, .ifCond .eq 16, 26, 39, 0), (26, .aload_n 0, 27, 0, 0), (27, .dup, 28, 0, 0), (28, .getfield 25, 31, 9, 5), (31, .iconst 1, 32, 0, 0),
  (32, .iadd, 33, 0, 0), (33, .putfield 25, 36, 9, 40), (36, .goto (-36), 39, 0, 0), (39, .return_, 40, 0, 0)]
set_option maxRecDepth 20000 in
/-- 119: StoneHome$Tokens.isBlank(I)Z -/
def at_X9_isBlank : List (Nat × am_I) := [(0, .iload_n 0, 1, 0, 0), (1, .bipush 9, 3, 0, 0), (3, .if_icmp .eq 21, 6, 24, 0), (6, .iload_n 0, 7, 0, 0), (7, .bipush 10, 9, 0, 0), (9, .if_icmp .eq 15, 12, 24, 0), (12, .iload_n 0, 13, 0, 0), (13, .bipush 13, 15, 0, 0),
  (15, .if_icmp .eq 9, 18, 24, 0), (18, .iload_n 0, 19, 0, 0), (19, .bipush 32, 21, 0, 0), (21, .if_icmp .ne 7, 24, 28, 0), (24, .iconst 1, 25, 0, 0), (25, .goto 4, 28, 29, 0), (28, .iconst 0, 29, 0, 0), (29, .ireturn, 30, 0, 0)]
set_option maxRecDepth 20000 in
/-- 120: StoneHome$Tokens.scanOne()V -/
def at_X9_scanOne : List (Nat × am_I) := [(0, .aload_n 0, 1, 0, 0), (1, .iconst 0, 2, 0, 0), (2, .putfield 31, 5, 9, 56), (5, .aload_n 0, 6, 0, 0), (6, .getfield 25, 9, 9, 5), (9, .aload_n 0, 10, 0, 0), (10, .getfield 21, 13, 9, 4), (13, .if_icmp .lt 11, 16, 24, 0),
  (16, .aload_n 0, 17, 0, 0), (17, .iconst 0, 18, 0, 0), (18, .putfield 28, 21, 9, 48), (21, .goto 99, 24, 120, 0), (24, .aload_n 0, 25, 0, 0), (25, .getfield 34, 28, 9, 3), (28, .aload_n 0, 29, 0, 0), (29, .getfield 25, 32, 9, 5),
  (32, .baload, 33, 1, 0), (33, .invokestatic 61, 36, 121, 1), (36, .ifCond .eq 10, 39, 46, 0), (39, .aload_n 0, 40, 0, 0), (40, .invokevirtual 64, 43, 122, 0), (43, .goto 77, 46, 120, 0), (46, .aload_n 0, 47, 0, 0), (47, .getfield 34, 50, 9, 3),
  (50, .aload_n 0, 51, 0, 0), (51, .getfield 25, 54, 9, 5), (54, .baload, 55, 1, 0), (55, .invokestatic 67, 58, 124, 1), (58, .ifCond .eq 10, 61, 68, 0), (61, .aload_n 0, 62, 0, 0), (62, .invokevirtual 70, 65, 125, 0), (65, .goto 55, 68, 120, 0),
  (68, .aload_n 0, 69, 0, 0), (69, .aload_n 0, 70, 0, 0), (70, .getfield 34, 73, 9, 3), (73, .aload_n 0, 74, 0, 0), (74, .getfield 25, 77, 9, 5), (77, .baload, 78, 1, 0), (78, .putfield 31, 81, 9, 56), (81, .aload_n 0, 82, 0, 0),
  (82, .aload_n 0, 83, 0, 0), (83, .getfield 31, 86, 9, 7), (86, .ifCond .le 20, 89, 106, 0), (89, .ldc 73, 91, 1, 3), (91, .aload_n 0, 92, 0, 0), (92, .getfield 31, 95, 9, 7), (95, .i2c, 96, 0, 0), (96, .invokevirtual 75, 99, 298, 1),
  (99, .ifCond .lt 7, 102, 106, 0), (102, .iconst 4, 103, 0, 0), (103, .goto 4, 106, 107, 0), (106, .iconst 5, 107, 0, 0), (107, .putfield 28, 110, 9, 48), (110, .aload_n 0, 111, 0, 0), (111, .dup, 112, 0, 0), (112, .getfield 25, 115, 9, 5),
  (115, .iconst 1, 116, 0, 0), (116, .iadd, 117, 0, 0), (117, .putfield 25, 120, 9, 40), (120, .return_, 121, 0, 0)]
set_option maxRecDepth 20000 in
/-- 121: StoneHome$Tokens.isLetter(I)Z -/
def at_X9_isLetter : List (Nat × am_I) := [(0, .iload_n 0, 1, 0, 0), (1, .bipush 97, 3, 0, 0), (3, .if_icmp .lt 13, 6, 16, 0), (6, .iload_n 0, 7, 0, 0), (7, .bipush 122, 9, 0, 0), (9, .if_icmp .gt 7, 12, 16, 0), (12, .iconst 1, 13, 0, 0), (13, .goto 4, 16, 17, 0),
  (16, .iconst 0, 17, 0, 0), (17, .ireturn, 18, 0, 0)]
set_option maxRecDepth 20000 in
/-- 122: StoneHome$Tokens.scanWord()V -/
def at_X9_scanWord : List (Nat × am_I) := [(0, .aload_n 0, 1, 0, 0), (1, .getfield 25, 4, 9, 5), (4, .istore_n 1, 5, 1, 0), (5, .aload_n 0, 6, 0, 0), (6, .getfield 25, 9, 9, 5), (9, .aload_n 0, 10, 0, 0), (10, .getfield 21, 13, 9, 4), (13, .if_icmp .ge 31, 16, 44, 0),
  (16, .aload_n 0, 17, 0, 0), (17, .getfield 34, 20, 9, 3), (20, .aload_n 0, 21, 0, 0), (21, .getfield 25, 24, 9, 5), (24, .baload, 25, 1, 0), (25, .invokestatic 61, 28, 121, 1), (28, .ifCond .eq 16, 31, 44, 0), (31, .aload_n 0, 32, 0, 0),
  (32, .dup, 33, 0, 0), (33, .getfield 25, 36, 9, 5), (36, .iconst 1, 37, 0, 0), (37, .iadd, 38, 0, 0), (38, .putfield 25, 41, 9, 40), (41, .goto (-36), 44, 5, 0), (44, .aload_n 0, 45, 0, 0), (45, .iload_n 1, 46, 1, 0),
  (46, .invokevirtual 81, 49, 123, 1), (49, .istore_n 2, 50, 2, 0), (50, .aload_n 0, 51, 0, 0), (51, .iload_n 2, 52, 2, 0), (52, .iconst (-1), 53, 0, 0), (53, .if_icmp .ne 12, 56, 65, 0), (56, .aload_n 0, 57, 0, 0), (57, .getfield 25, 60, 9, 5),
  (60, .iload_n 1, 61, 1, 0), (61, .isub, 62, 0, 0), (62, .goto 4, 65, 66, 0), (65, .iload_n 2, 66, 2, 0), (66, .putfield 31, 69, 9, 56), (69, .aload_n 0, 70, 0, 0), (70, .getfield 25, 73, 9, 5), (73, .iload_n 1, 74, 1, 0),
  (74, .isub, 75, 0, 0), (75, .bipush 8, 77, 0, 0), (77, .if_icmp .le 11, 80, 88, 0), (80, .aload_n 0, 81, 0, 0), (81, .iconst 5, 82, 0, 0), (82, .putfield 28, 85, 9, 48), (85, .goto 17, 88, 102, 0), (88, .aload_n 0, 89, 0, 0),
  (89, .iload_n 2, 90, 2, 0), (90, .iconst (-1), 91, 0, 0), (91, .if_icmp .ne 7, 94, 98, 0), (94, .iconst 1, 95, 0, 0), (95, .goto 4, 98, 99, 0), (98, .iconst 2, 99, 0, 0), (99, .putfield 28, 102, 9, 48), (102, .return_, 103, 0, 0)]
set_option maxRecDepth 20000 in
/-- 123: StoneHome$Tokens.wordNumber(I)I -/
def at_X9_wordNumber : List (Nat × am_I) := [(0, .iconst 0, 1, 0, 0), (1, .istore_n 2, 2, 2, 0), (2, .iload_n 1, 3, 1, 0), (3, .istore_n 3, 4, 3, 0), (4, .iconst 1, 5, 0, 0), (5, .istore 4, 7, 4, 0), (7, .iconst 0, 8, 0, 0), (8, .istore 5, 10, 5, 0),
  (10, .iload 5, 12, 5, 0), (12, .ldc 84, 14, 1, 2), (14, .invokevirtual 86, 17, 294, 0), (17, .if_icmp .ge 93, 20, 110, 0), (20, .ldc 84, 22, 1, 2), (22, .iload 5, 24, 5, 0), (24, .invokevirtual 90, 27, 296, 1), (27, .istore 6, 29, 6, 0),
  (29, .iload 6, 31, 6, 0), (31, .bipush 32, 33, 0, 0), (33, .if_icmp .eq 48, 36, 81, 0), (36, .iload 4, 38, 4, 0), (38, .ifCond .eq 34, 41, 72, 0), (41, .iload_n 3, 42, 3, 0), (42, .aload_n 0, 43, 0, 0), (43, .getfield 25, 46, 9, 5),
  (46, .if_icmp .ge 26, 49, 72, 0), (49, .iload_n 3, 50, 3, 0), (50, .aload_n 0, 51, 0, 0), (51, .getfield 21, 54, 9, 4), (54, .if_icmp .ge 18, 57, 72, 0), (57, .aload_n 0, 58, 0, 0), (58, .getfield 34, 61, 9, 3), (61, .iload_n 3, 62, 3, 0),
  (62, .baload, 63, 1, 0), (63, .iload 6, 65, 6, 0), (65, .if_icmp .ne 7, 68, 72, 0), (68, .iconst 1, 69, 0, 0), (69, .goto 4, 72, 73, 0), (72, .iconst 0, 73, 0, 0), (73, .istore 4, 75, 4, 0), (75, .iinc 3 1, 78, 3, 0),
  (78, .goto 26, 81, 104, 0), (81, .iload 4, 83, 4, 0), (83, .ifCond .eq 13, 86, 96, 0), (86, .iload_n 3, 87, 3, 0), (87, .aload_n 0, 88, 0, 0), (88, .getfield 25, 91, 9, 5), (91, .if_icmp .ne 5, 94, 96, 0), (94, .iload_n 2, 95, 2, 0),
  (95, .ireturn, 96, 0, 0), (96, .iinc 2 1, 99, 2, 0), (99, .iload_n 1, 100, 1, 0), (100, .istore_n 3, 101, 3, 0), (101, .iconst 1, 102, 0, 0), (102, .istore 4, 104, 4, 0), (104, .iinc 5 1, 107, 5, 0), (107, .goto (-97), 110, 10, 0),
  (110, .iconst (-1), 111, 0, 0), (111, .ireturn, 112, 0, 0)]
set_option maxRecDepth 20000 in
/-- 124: StoneHome$Tokens.isDigit(I)Z -/
def at_X9_isDigit : List (Nat × am_I) := [(0, .iload_n 0, 1, 0, 0), (1, .bipush 48, 3, 0, 0), (3, .if_icmp .lt 13, 6, 16, 0), (6, .iload_n 0, 7, 0, 0), (7, .bipush 57, 9, 0, 0), (9, .if_icmp .gt 7, 12, 16, 0), (12, .iconst 1, 13, 0, 0), (13, .goto 4, 16, 17, 0),
  (16, .iconst 0, 17, 0, 0), (17, .ireturn, 18, 0, 0)]
set_option maxRecDepth 20000 in
/-- 125: StoneHome$Tokens.scanInt()V -/
def at_X9_scanInt : List (Nat × am_I) := [(0, .aload_n 0, 1, 0, 0), (1, .getfield 25, 4, 9, 5), (4, .istore_n 1, 5, 1, 0), (5, .aload_n 0, 6, 0, 0), (6, .getfield 25, 9, 9, 5), (9, .aload_n 0, 10, 0, 0), (10, .getfield 21, 13, 9, 4), (13, .if_icmp .ge 55, 16, 68, 0),
  (16, .aload_n 0, 17, 0, 0), (17, .getfield 34, 20, 9, 3), (20, .aload_n 0, 21, 0, 0), (21, .getfield 25, 24, 9, 5), (24, .baload, 25, 1, 0), (25, .invokestatic 67, 28, 124, 1), (28, .ifCond .eq 40, 31, 68, 0), (31, .aload_n 0, 32, 0, 0),
  (32, .aload_n 0, 33, 0, 0), (33, .getfield 31, 36, 9, 7), (36, .bipush 10, 38, 0, 0), (38, .imul, 39, 0, 0), (39, .aload_n 0, 40, 0, 0), (40, .getfield 34, 43, 9, 3), (43, .aload_n 0, 44, 0, 0), (44, .getfield 25, 47, 9, 5),
  (47, .baload, 48, 1, 0), (48, .iadd, 49, 0, 0), (49, .bipush 48, 51, 0, 0), (51, .isub, 52, 0, 0), (52, .putfield 31, 55, 9, 56), (55, .aload_n 0, 56, 0, 0), (56, .dup, 57, 0, 0), (57, .getfield 25, 60, 9, 5),
  (60, .iconst 1, 61, 0, 0), (61, .iadd, 62, 0, 0), (62, .putfield 25, 65, 9, 40), (65, .goto (-60), 68, 5, 0), (68, .aload_n 0, 69, 0, 0), (69, .aload_n 0, 70, 0, 0), (70, .getfield 25, 73, 9, 5), (73, .iload_n 1, 74, 1, 0),
  (74, .isub, 75, 0, 0), (75, .iconst 4, 76, 0, 0), (76, .if_icmp .le 7, 79, 83, 0), (79, .iconst 5, 80, 0, 0), (80, .goto 4, 83, 84, 0), (83, .iconst 3, 84, 0, 0), (84, .putfield 28, 87, 9, 48), (87, .return_, 88, 0, 0)]
set_option maxRecDepth 20000 in
/-- 126: StoneHome$Tokens.letterAt(I)C -/
def at_X9_letterAt : List (Nat × am_I) := [(0, .iload_n 1, 1, 1, 0), (1, .ifCond .lt 21, 4, 22, 0), (4, .iload_n 1, 5, 1, 0), (5, .aload_n 0, 6, 0, 0), (6, .getfield 21, 9, 9, 4), (9, .if_icmp .ge 13, 12, 22, 0), (12, .aload_n 0, 13, 0, 0), (13, .getfield 34, 16, 9, 3),
  (16, .iload_n 1, 17, 1, 0), (17, .baload, 18, 1, 0), (18, .i2c, 19, 0, 0), (19, .goto 5, 22, 24, 0), (22, .bipush 32, 24, 0, 0), (24, .ireturn, 25, 0, 0)]
set_option maxRecDepth 20000 in
/-- 127: StoneHome$Tokens.nameAt(II)J -/
def at_X9_nameAt : List (Nat × am_I) := [(0, .lconst 0, 1, 0, 0), (1, .lstore_n 3, 2, 3, 0), (2, .iconst 0, 3, 0, 0), (3, .istore 5, 5, 5, 0), (5, .iload 5, 7, 5, 0), (7, .bipush 8, 9, 0, 0), (9, .if_icmp .ge 34, 12, 43, 0), (12, .iload 5, 14, 5, 0),
  (14, .iload_n 2, 15, 2, 0), (15, .if_icmp .ge 28, 18, 43, 0), (18, .lload_n 3, 19, 3, 0), (19, .iconst 5, 20, 0, 0), (20, .lshl, 21, 0, 0), (21, .aload_n 0, 22, 0, 0), (22, .iload_n 1, 23, 1, 0), (23, .iload 5, 25, 5, 0),
  (25, .iadd, 26, 0, 0), (26, .invokevirtual 53, 29, 126, 1), (29, .bipush 97, 31, 0, 0), (31, .isub, 32, 0, 0), (32, .iconst 1, 33, 0, 0), (33, .iadd, 34, 0, 0), (34, .i2l, 35, 0, 0), (35, .lor, 36, 0, 0),
  (36, .lstore_n 3, 37, 3, 0), (37, .iinc 5 1, 40, 5, 0), (40, .goto (-35), 43, 5, 0), (43, .lload_n 3, 44, 3, 0), (44, .lreturn, 45, 0, 0)]
set_option maxRecDepth 20000 in
/-- 128: StoneHome.<init>()V -/
def at_X10_init : List (Nat × am_I) := [(0, .aload_n 0, 1, 0, 0), (1, .invokespecial 1, 4, 999, 0), (4, .aload_n 0, 5, 0, 0), (5, .sipush 2000, 8, 0, 0), (8, .newarray .byte, 10, 0, 0), (10, .putfield 9, 13, 10, 6), (13, .aload_n 0, 14, 0, 0), (14, .iconst 0, 15, 0, 0),
  (15, .putfield 13, 18, 10, 8), (18, .aload_n 0, 19, 0, 0), (19, .iconst (-1), 20, 0, 0), (20, .putfield 17, 23, 10, 16), (23, .aload_n 0, 24, 0, 0), (24, .new 20, 27, 7, 0), (27, .dup, 28, 0, 0), (28, .invokespecial 22, 31, 84, 0),
  (31, .putfield 23, 34, 10, 26), (34, .aload_n 0, 35, 0, 0), (35, .new 20, 38, 7, 0), (38, .dup, 39, 0, 0), (39, .invokespecial 22, 42, 84, 0), (42, .putfield 27, 45, 10, 34), (45, .aload_n 0, 46, 0, 0), (46, .new 30, 49, 4, 0),
  (49, .dup, 50, 0, 0), (50, .aload_n 0, 51, 0, 0), (51, .getfield 9, 54, 10, 0), (54, .aload_n 0, 55, 0, 0), (55, .getfield 27, 58, 10, 4), (58, .invokespecial 32, 61, 42, 2), (61, .putfield 35, 64, 10, 46), (64, .aload_n 0, 65, 0, 0),
  (65, .new 39, 68, 6, 0), (68, .dup, 69, 0, 0), (69, .invokespecial 41, 72, 80, 0), (72, .putfield 42, 75, 10, 54), (75, .aload_n 0, 76, 0, 0), (76, .new 46, 79, 2, 0), (79, .dup, 80, 0, 0), (80, .invokespecial 48, 83, 28, 0),
  (83, .putfield 49, 86, 10, 62), (86, .aload_n 0, 87, 0, 0), (87, .iconst 3, 88, 0, 0), (88, .anewarray 39, 91, 4, 0), (91, .putfield 53, 94, 10, 70), (94, .aload_n 0, 95, 0, 0), (95, .new 57, 98, 8, 0), (98, .dup, 99, 0, 0),
  (99, .aload_n 0, 100, 0, 0), (100, .getfield 23, 103, 10, 3), (103, .invokespecial 59, 106, 110, 1), (106, .putfield 62, 109, 10, 78), (109, .aload_n 0, 110, 0, 0), (110, .new 66, 113, 0, 0), (113, .dup, 114, 0, 0), (114, .aload_n 0, 115, 0, 0),
  (115, .getfield 62, 118, 10, 9), (118, .aload_n 0, 119, 0, 0), (119, .getfield 23, 122, 10, 3), (122, .invokespecial 68, 125, 0, 2), (125, .putfield 71, 128, 10, 86), (128, .aload_n 0, 129, 0, 0), (129, .new 75, 132, 3, 0), (132, .dup, 133, 0, 0),
  (133, .aload_n 0, 134, 0, 0), (134, .getfield 62, 137, 10, 9), (137, .aload_n 0, 138, 0, 0), (138, .getfield 23, 141, 10, 3), (141, .invokespecial 77, 144, 32, 2), (144, .putfield 78, 147, 10, 94), (147, .aload_n 0, 148, 0, 0), (148, .new 82, 151, 5, 0),
  (151, .dup, 152, 0, 0), (152, .invokespecial 84, 155, 69, 0), (155, .putfield 85, 158, 10, 102), (158, .iconst 0, 159, 0, 0), (159, .istore_n 1, 160, 1, 0), (160, .iload_n 1, 161, 1, 0), (161, .aload_n 0, 162, 0, 0), (162, .getfield 53, 165, 10, 8),
  (165, .arraylength, 166, 0, 0), (166, .if_icmp .ge 22, 169, 188, 0), (169, .aload_n 0, 170, 0, 0), (170, .getfield 53, 173, 10, 8), (173, .iload_n 1, 174, 1, 0), (174, .new 39, 177, 6, 0), (177, .dup, 178, 0, 0), (178, .invokespecial 41, 181, 80, 0),
  (181, .aastore, 182, 0, 0), (182, .iinc 1 1, 185, 1, 0), (185, .goto (-25), 188, 160, 0), (188, .aload_n 0, 189, 0, 0), (189, .getfield 23, 192, 10, 3), (192, .invokevirtual 89, 195, 85, 0), (195, .aload_n 0, 196, 0, 0), (196, .invokevirtual 92, 199, 129, 0),
  (199, .return_, 200, 0, 0)]
set_option maxRecDepth 20000 in
/-- 129: StoneHome.begin()V -/
def at_X10_begin : List (Nat × am_I) := [(0, .aload_n 0, 1, 0, 0), (1, .getfield 42, 4, 10, 6), (4, .aload_n 0, 5, 0, 0), (5, .getfield 23, 8, 10, 3), (8, .invokevirtual 293, 11, 81, 1), (11, .aload_n 0, 12, 0, 0), (12, .getfield 49, 15, 10, 7), (15, .invokevirtual 273, 18, 29, 0),
  (18, .aload_n 0, 19, 0, 0), (19, .getfield 85, 22, 10, 12), (22, .invokevirtual 247, 25, 70, 0), (25, .pop, 26, 0, 0), (26, .iconst 0, 27, 0, 0), (27, .istore_n 1, 28, 1, 0), (28, .iload_n 1, 29, 1, 0), (29, .aload_n 0, 30, 0, 0),
  (30, .getfield 53, 33, 10, 8), (33, .arraylength, 34, 0, 0), (34, .if_icmp .ge 19, 37, 53, 0), (37, .aload_n 0, 38, 0, 0), (38, .getfield 53, 41, 10, 8), (41, .iload_n 1, 42, 1, 0), (42, .aaload, 43, 4, 0), (43, .iconst 0, 44, 0, 0),
  (44, .putfield 269, 47, 6, 57), (47, .iinc 1 1, 50, 1, 0), (50, .goto (-22), 53, 28, 0), (53, .aload_n 0, 54, 0, 0), (54, .getfield 62, 57, 10, 9), (57, .aload_n 0, 58, 0, 0), (58, .getfield 23, 61, 10, 3), (61, .invokevirtual 296, 64, 111, 1),
  (64, .aload_n 0, 65, 0, 0), (65, .getfield 71, 68, 10, 10), (68, .aload_n 0, 69, 0, 0), (69, .getfield 23, 72, 10, 3), (72, .invokevirtual 299, 75, 1, 1), (75, .aload_n 0, 76, 0, 0), (76, .getfield 78, 79, 10, 11), (79, .aload_n 0, 80, 0, 0),
  (80, .getfield 23, 83, 10, 3), (83, .invokevirtual 300, 86, 33, 1), (86, .return_, 87, 0, 0)]
set_option maxRecDepth 20000 in
/-- 130: StoneHome.squareOf(II)I -/
def at_X10_squareOf : List (Nat × am_I) := [(0, .iload_n 1, 1, 1, 0), (1, .bipush 8, 3, 0, 0), (3, .imul, 4, 0, 0), (4, .iload_n 0, 5, 0, 0), (5, .iadd, 6, 0, 0), (6, .ireturn, 7, 0, 0)]
set_option maxRecDepth 20000 in
/-- 131: StoneHome.lieOf(II)I -/
def at_X10_lieOf : List (Nat × am_I) := [(0, .iload_n 0, 1, 0, 0), (1, .iconst 3, 2, 0, 0), (2, .imul, 3, 0, 0), (3, .iload_n 1, 4, 1, 0), (4, .iadd, 5, 0, 0), (5, .ireturn, 6, 0, 0)]
set_option maxRecDepth 20000 in
/-- 132: StoneHome.feed(IIIII)I -/
def at_X10_feed : List (Nat × am_I) := [(0, .aload_n 0, 1, 0, 0), (1, .getfield 13, 4, 10, 1), (4, .bipush 20, 6, 0, 0), (6, .iadd, 7, 0, 0), (7, .sipush 2000, 10, 0, 0), (10, .if_icmp .le 5, 13, 15, 0), (13, .iconst (-1), 14, 0, 0), (14, .ireturn, 15, 0, 0),
  (15, .aload_n 0, 16, 0, 0), (16, .iload_n 1, 17, 1, 0), (17, .invokevirtual 95, 20, 133, 1), (20, .aload_n 0, 21, 0, 0), (21, .iload_n 2, 22, 2, 0), (22, .invokevirtual 95, 25, 133, 1), (25, .aload_n 0, 26, 0, 0), (26, .iload_n 3, 27, 3, 0),
  (27, .invokevirtual 95, 30, 133, 1), (30, .aload_n 0, 31, 0, 0), (31, .iload 4, 33, 4, 0), (33, .invokevirtual 95, 36, 133, 1), (36, .aload_n 0, 37, 0, 0), (37, .iload 5, 39, 5, 0), (39, .invokevirtual 95, 42, 133, 1), (42, .aload_n 0, 43, 0, 0),
  (43, .getfield 13, 46, 10, 1), (46, .ireturn, 47, 0, 0)]
set_option maxRecDepth 20000 in
/-- 133: StoneHome.putBytes(I)V -/
def at_X10_putBytes : List (Nat × am_I) := [(0, .bipush 24, 2, 0, 0), (2, .istore_n 2, 3, 2, 0), (3, .iload_n 2, 4, 2, 0), (4, .ifCond .lt 44, 7, 48, 0), (7, .aload_n 0, 8, 0, 0), (8, .getfield 13, 11, 10, 1), (11, .aload_n 0, 12, 0, 0), (12, .getfield 9, 15, 10, 0),
  (15, .arraylength, 16, 0, 0), (16, .if_icmp .ge 26, 19, 42, 0), (19, .aload_n 0, 20, 0, 0), (20, .getfield 9, 23, 10, 0), (23, .aload_n 0, 24, 0, 0), (24, .getfield 13, 27, 10, 1), (27, .iload_n 1, 28, 1, 0), (28, .iload_n 2, 29, 2, 0),
  (29, .ishr, 30, 0, 0), (30, .i2b, 31, 0, 0), (31, .bastore, 32, 1, 0), (32, .aload_n 0, 33, 0, 0), (33, .dup, 34, 0, 0), (34, .getfield 13, 37, 10, 1), (37, .iconst 1, 38, 0, 0), (38, .iadd, 39, 0, 0),
  (39, .putfield 13, 42, 10, 8), (42, .iinc 2 (-8), 45, 2, 0), (45, .goto (-42), 48, 3, 0), (48, .return_, 49, 0, 0)]
set_option maxRecDepth 20000 in
/-- 134: StoneHome.back(I)I -/
def at_X10_back : List (Nat × am_I) := [(0, .iload_n 1, 1, 1, 0), (1, .ifCond .lt 11, 4, 12, 0), (4, .iload_n 1, 5, 1, 0), (5, .aload_n 0, 6, 0, 0), (6, .getfield 13, 9, 10, 1), (9, .if_icmp .le 5, 12, 14, 0), (12, .iconst (-1), 13, 0, 0), (13, .ireturn, 14, 0, 0),
  (14, .aload_n 0, 15, 0, 0), (15, .dup, 16, 0, 0), (16, .getfield 13, 19, 10, 1), (19, .iload_n 1, 20, 1, 0), (20, .isub, 21, 0, 0), (21, .putfield 13, 24, 10, 8), (24, .aload_n 0, 25, 0, 0), (25, .getfield 13, 28, 10, 1),
  (28, .ireturn, 29, 0, 0)]
set_option maxRecDepth 20000 in
/-- 135: StoneHome.read()I -/
def at_X10_read : List (Nat × am_I) := [(0, .aload_n 0, 1, 0, 0), (1, .getfield 35, 4, 10, 5), (4, .aload_n 0, 5, 0, 0), (5, .getfield 27, 8, 10, 4), (8, .aload_n 0, 9, 0, 0), (9, .getfield 13, 12, 10, 1), (12, .invokevirtual 99, 15, 43, 2), (15, .istore_n 1, 16, 1, 0),
  (16, .aload_n 0, 17, 0, 0), (17, .aload_n 0, 18, 0, 0), (18, .getfield 35, 21, 10, 5), (21, .invokevirtual 103, 24, 68, 0), (24, .putfield 17, 27, 10, 16), (27, .aload_n 0, 28, 0, 0), (28, .iconst 0, 29, 0, 0), (29, .putfield 13, 32, 10, 8),
  (32, .iload_n 1, 33, 1, 0), (33, .ifCond .ne 25, 36, 58, 0), (36, .aload_n 0, 37, 0, 0), (37, .getfield 23, 40, 10, 3), (40, .astore_n 2, 41, 2, 0), (41, .aload_n 0, 42, 0, 0), (42, .aload_n 0, 43, 0, 0), (43, .getfield 27, 46, 10, 4),
  (46, .putfield 23, 49, 10, 26), (49, .aload_n 0, 50, 0, 0), (50, .aload_n 2, 51, 2, 0), (51, .putfield 27, 54, 10, 34), (54, .aload_n 0, 55, 0, 0), (55, .invokevirtual 92, 58, 129, 0), (58, .iload_n 1, 59, 1, 0), (59, .ireturn, 60, 0, 0)]
set_option maxRecDepth 20000 in
/-- 136: StoneHome.place()I -/
def at_X10_place : List (Nat × am_I) := [(0, .aload_n 0, 1, 0, 0), (1, .getfield 17, 4, 10, 2), (4, .ireturn, 5, 0, 0)]
set_option maxRecDepth 20000 in
/-- 137: StoneHome.now(I)I -/
def at_X10_now : List (Nat × am_I) := [(0, .iload_n 1, 1, 1, 0), (1, .tableswitch 169 0 8 #[51, 78, 105, 113, 121, 129, 145, 153, 161], 52, 170, 0), (52, .aload_n 0, 53, 0, 0), (53, .getfield 42, 56, 10, 6), (56, .getfield 107, 59, 6, 6), (59, .iconst 2, 60, 0, 0), (60, .if_icmp .ne 8, 63, 68, 0), (63, .bipush (-2), 65, 0, 0),
  (65, .goto 13, 68, 78, 0), (68, .aload_n 0, 69, 0, 0), (69, .getfield 42, 72, 10, 6), (72, .getfield 110, 75, 6, 0), (75, .invokestatic 113, 78, 138, 1), (78, .ireturn, 79, 0, 0), (79, .aload_n 0, 80, 0, 0), (80, .getfield 42, 83, 10, 6),
  (83, .getfield 107, 86, 6, 6), (86, .iconst 2, 87, 0, 0), (87, .if_icmp .ne 8, 90, 95, 0), (90, .bipush (-2), 92, 0, 0), (92, .goto 13, 95, 105, 0), (95, .aload_n 0, 96, 0, 0), (96, .getfield 42, 99, 10, 6), (99, .getfield 110, 102, 6, 0),
  (102, .invokestatic 117, 105, 139, 1), (105, .ireturn, 106, 0, 0), (106, .aload_n 0, 107, 0, 0), (107, .getfield 42, 110, 10, 6), (110, .getfield 120, 113, 6, 1), (113, .ireturn, 114, 0, 0), (114, .aload_n 0, 115, 0, 0), (115, .getfield 42, 118, 10, 6),
  (118, .getfield 123, 121, 6, 2), (121, .ireturn, 122, 0, 0), (122, .aload_n 0, 123, 0, 0), (123, .getfield 42, 126, 10, 6), (126, .getfield 126, 129, 6, 4), (129, .ireturn, 130, 0, 0), (130, .aload_n 0, 131, 0, 0), (131, .getfield 42, 134, 10, 6),
  (134, .getfield 126, 137, 6, 4), (137, .aload_n 0, 138, 0, 0), (138, .getfield 23, 141, 10, 3), (141, .getfield 129, 144, 7, 14), (144, .imul, 145, 0, 0), (145, .ireturn, 146, 0, 0), (146, .aload_n 0, 147, 0, 0), (147, .getfield 42, 150, 10, 6),
  (150, .getfield 132, 153, 6, 5), (153, .ireturn, 154, 0, 0), (154, .aload_n 0, 155, 0, 0), (155, .getfield 42, 158, 10, 6), (158, .getfield 107, 161, 6, 6), (161, .ireturn, 162, 0, 0), (162, .aload_n 0, 163, 0, 0), (163, .getfield 42, 166, 10, 6),
  (166, .getfield 135, 169, 6, 3), (169, .ireturn, 170, 0, 0), (170, .iconst (-1), 171, 0, 0), (171, .ireturn, 172, 0, 0)]
set_option maxRecDepth 20000 in
/-- 138: StoneHome.alongOf(I)I -/
def at_X10_alongOf : List (Nat × am_I) := [(0, .iload_n 0, 1, 0, 0), (1, .bipush 8, 3, 0, 0), (3, .irem, 4, 0, 0), (4, .ireturn, 5, 0, 0)]
set_option maxRecDepth 20000 in
/-- 139: StoneHome.acrossOf(I)I -/
def at_X10_acrossOf : List (Nat × am_I) := [(0, .iload_n 0, 1, 0, 0), (1, .bipush 8, 3, 0, 0), (3, .idiv, 4, 0, 0), (4, .ireturn, 5, 0, 0)]
set_option maxRecDepth 20000 in
/-- 140: StoneHome.square(II)I -/
def at_X10_square : List (Nat × am_I) := [(0, .aload_n 0, 1, 0, 0), (1, .getfield 23, 4, 10, 3), (4, .iload_n 1, 5, 1, 0), (5, .iload_n 2, 6, 2, 0), (6, .invokevirtual 138, 9, 94, 2), (9, .ireturn, 10, 0, 0)]
set_option maxRecDepth 20000 in
/-- 141: StoneHome.cars(III)I -/
def at_X10_cars : List (Nat × am_I) := [(0, .aload_n 0, 1, 0, 0), (1, .getfield 23, 4, 10, 3), (4, .iload_n 1, 5, 1, 0), (5, .iload_n 2, 6, 2, 0), (6, .invokevirtual 138, 9, 94, 2), (9, .iconst (-1), 10, 0, 0), (10, .if_icmp .eq 14, 13, 24, 0), (13, .iload_n 3, 14, 3, 0),
  (14, .ifCond .lt 10, 17, 24, 0), (17, .iload_n 3, 18, 3, 0), (18, .sipush 9999, 21, 0, 0), (21, .if_icmp .le 5, 24, 26, 0), (24, .iconst (-1), 25, 0, 0), (25, .ireturn, 26, 0, 0), (26, .aload_n 0, 27, 0, 0), (27, .getfield 23, 30, 10, 3),
  (30, .iload_n 1, 31, 1, 0), (31, .iload_n 2, 32, 2, 0), (32, .invokestatic 142, 35, 130, 2), (35, .iload_n 3, 36, 3, 0), (36, .invokevirtual 145, 39, 95, 2), (39, .ifCond .eq 7, 42, 46, 0), (42, .iconst 1, 43, 0, 0), (43, .goto 4, 46, 47, 0),
  (46, .iconst 0, 47, 0, 0), (47, .ireturn, 48, 0, 0)]
set_option maxRecDepth 20000 in
/-- 142: StoneHome.kick(I)I -/
def at_X10_kick : List (Nat × am_I) := [(0, .aload_n 0, 1, 0, 0), (1, .getfield 23, 4, 10, 3), (4, .iload_n 1, 5, 1, 0), (5, .invokevirtual 149, 8, 96, 1), (8, .ifCond .ne 5, 11, 13, 0), (11, .iconst (-1), 12, 0, 0), (12, .ireturn, 13, 0, 0), (13, .aload_n 0, 14, 0, 0),
  (14, .iload_n 1, 15, 1, 0), (15, .invokevirtual 153, 18, 143, 1), (18, .ifCond .ne 6, 21, 24, 0), (21, .bipush (-2), 23, 0, 0), (23, .ireturn, 24, 0, 0), (24, .aload_n 0, 25, 0, 0), (25, .aload_n 0, 26, 0, 0), (26, .getfield 23, 29, 10, 3),
  (29, .iload_n 1, 30, 1, 0), (30, .aload_n 0, 31, 0, 0), (31, .getfield 42, 34, 10, 6), (34, .getfield 126, 37, 6, 4), (37, .invokevirtual 156, 40, 98, 2), (40, .invokevirtual 159, 43, 144, 1), (43, .ireturn, 44, 0, 0)]
set_option maxRecDepth 20000 in
/-- 143: StoneHome.canBeKicked(I)Z -/
def at_X10_canBeKicked : List (Nat × am_I) := [(0, .aload_n 0, 1, 0, 0), (1, .getfield 42, 4, 10, 6), (4, .getfield 107, 7, 6, 6), (7, .ifCond .ne 25, 10, 32, 0), (10, .aload_n 0, 11, 0, 0), (11, .getfield 23, 14, 10, 3), (14, .aload_n 0, 15, 0, 0), (15, .getfield 42, 18, 10, 6),
  (18, .getfield 110, 21, 6, 0), (21, .iload_n 1, 22, 1, 0), (22, .invokevirtual 301, 25, 97, 2), (25, .ifCond .eq 7, 28, 32, 0), (28, .iconst 1, 29, 0, 0), (29, .goto 4, 32, 33, 0), (32, .iconst 0, 33, 0, 0), (33, .ireturn, 34, 0, 0)]
set_option maxRecDepth 20000 in
/-- 144: StoneHome.comeBy(I)I -/
def at_X10_comeBy : List (Nat × am_I) := [(0, .aload_n 0, 1, 0, 0), (1, .getfield 49, 4, 10, 7), (4, .aload_n 0, 5, 0, 0), (5, .getfield 42, 8, 10, 6), (8, .invokevirtual 165, 11, 30, 1), (11, .aload_n 0, 12, 0, 0), (12, .getfield 23, 15, 10, 3), (15, .aload_n 0, 16, 0, 0),
  (16, .getfield 42, 19, 10, 6), (19, .invokevirtual 182, 22, 83, 0), (22, .iload_n 1, 23, 1, 0), (23, .aload_n 0, 24, 0, 0), (24, .getfield 42, 27, 10, 6), (27, .getfield 126, 30, 6, 4), (30, .aload_n 0, 31, 0, 0), (31, .getfield 23, 34, 10, 3),
  (34, .getfield 129, 37, 7, 14), (37, .imul, 38, 0, 0), (38, .invokevirtual 185, 41, 104, 3), (41, .istore_n 2, 42, 2, 0), (42, .aload_n 0, 43, 0, 0), (43, .getfield 42, 46, 10, 6), (46, .dup, 47, 0, 0), (47, .getfield 126, 50, 6, 4),
  (50, .iconst 1, 51, 0, 0), (51, .iadd, 52, 0, 0), (52, .putfield 126, 55, 6, 32), (55, .aload_n 0, 56, 0, 0), (56, .iload_n 2, 57, 2, 0), (57, .invokevirtual 172, 60, 146, 1), (60, .ireturn, 61, 0, 0)]
set_option maxRecDepth 20000 in
/-- 145: StoneHome.held(II)I -/
def at_X10_held : List (Nat × am_I) := [(0, .iload_n 1, 1, 1, 0), (1, .ineg, 2, 0, 0), (2, .iload_n 1, 3, 1, 0), (3, .iload_n 0, 4, 0, 0), (4, .invokestatic 325, 7, 997, 2), (7, .invokestatic 310, 10, 996, 2), (10, .ireturn, 11, 0, 0)]
set_option maxRecDepth 20000 in
/-- 146: StoneHome.settle(I)I -/
def at_X10_settle : List (Nat × am_I) := [(0, .iload_n 1, 1, 1, 0), (1, .iconst (-1), 2, 0, 0), (2, .if_icmp .ne 8, 5, 10, 0), (5, .aload_n 0, 6, 0, 0), (6, .invokevirtual 304, 9, 147, 0), (9, .ireturn, 10, 0, 0), (10, .aload_n 0, 11, 0, 0), (11, .getfield 42, 14, 10, 6),
  (14, .iload_n 1, 15, 1, 0), (15, .iconst 3, 16, 0, 0), (16, .idiv, 17, 0, 0), (17, .putfield 110, 20, 6, 0), (20, .aload_n 0, 21, 0, 0), (21, .getfield 42, 24, 10, 6), (24, .iload_n 1, 25, 1, 0), (25, .iconst 3, 26, 0, 0),
  (26, .irem, 27, 0, 0), (27, .putfield 120, 30, 6, 8), (30, .aload_n 0, 31, 0, 0), (31, .getfield 42, 34, 10, 6), (34, .aload_n 0, 35, 0, 0), (35, .getfield 23, 38, 10, 3), (38, .aload_n 0, 39, 0, 0), (39, .getfield 42, 42, 10, 6),
  (42, .getfield 110, 45, 6, 0), (45, .invokevirtual 307, 48, 88, 1), (48, .bipush 6, 50, 0, 0), (50, .if_icmp .ne 7, 53, 57, 0), (53, .iconst 1, 54, 0, 0), (54, .goto 4, 57, 58, 0), (57, .iconst 0, 58, 0, 0), (58, .putfield 107, 61, 6, 48),
  (61, .aload_n 0, 62, 0, 0), (62, .getfield 42, 65, 10, 6), (65, .getfield 107, 68, 6, 6), (68, .ireturn, 69, 0, 0)]
set_option maxRecDepth 20000 in
/-- 147: StoneHome.lose()I -/
def at_X10_lose : List (Nat × am_I) := [(0, .aload_n 0, 1, 0, 0), (1, .getfield 42, 4, 10, 6), (4, .getfield 123, 7, 6, 2), (7, .ifCond .ne 13, 10, 20, 0), (10, .aload_n 0, 11, 0, 0), (11, .getfield 42, 14, 10, 6), (14, .iconst 2, 15, 0, 0), (15, .putfield 107, 18, 6, 48),
  (18, .iconst 2, 19, 0, 0), (19, .ireturn, 20, 0, 0), (20, .aload_n 0, 21, 0, 0), (21, .getfield 42, 24, 10, 6), (24, .dup, 25, 0, 0), (25, .getfield 123, 28, 6, 2), (28, .iconst 1, 29, 0, 0), (29, .isub, 30, 0, 0),
  (30, .putfield 123, 33, 6, 16), (33, .aload_n 0, 34, 0, 0), (34, .getfield 42, 37, 10, 6), (37, .dup, 38, 0, 0), (38, .getfield 135, 41, 6, 3), (41, .iconst 1, 42, 0, 0), (42, .iadd, 43, 0, 0), (43, .putfield 135, 46, 6, 24),
  (46, .iconst 3, 47, 0, 0), (47, .ireturn, 48, 0, 0)]
set_option maxRecDepth 20000 in
/-- 148: StoneHome.waits()I -/
def at_X10_waits : List (Nat × am_I) := [(0, .aload_n 0, 1, 0, 0), (1, .getfield 42, 4, 10, 6), (4, .getfield 107, 7, 6, 6), (7, .ifCond .eq 6, 10, 13, 0), (10, .bipush (-2), 12, 0, 0), (12, .ireturn, 13, 0, 0), (13, .aload_n 0, 14, 0, 0), (14, .bipush 24, 16, 0, 0),
  (16, .invokevirtual 159, 19, 144, 1), (19, .ireturn, 20, 0, 0)]
set_option maxRecDepth 20000 in
/-- 149: StoneHome.touch(I)Z -/
def at_X10_touch : List (Nat × am_I) := [(0, .aload_n 0, 1, 0, 0), (1, .iload_n 1, 2, 1, 0), (2, .invokevirtual 162, 5, 150, 1), (5, .istore_n 2, 6, 2, 0), (6, .iload_n 2, 7, 2, 0), (7, .iconst (-1), 8, 0, 0), (8, .if_icmp .eq 13, 11, 21, 0), (11, .aload_n 0, 12, 0, 0),
  (12, .getfield 42, 15, 10, 6), (15, .getfield 107, 18, 6, 6), (18, .ifCond .eq 5, 21, 23, 0), (21, .iconst 0, 22, 0, 0), (22, .ireturn, 23, 0, 0), (23, .aload_n 0, 24, 0, 0), (24, .getfield 49, 27, 10, 7), (27, .aload_n 0, 28, 0, 0),
  (28, .getfield 42, 31, 10, 6), (31, .invokevirtual 165, 34, 30, 1), (34, .aload_n 0, 35, 0, 0), (35, .getfield 42, 38, 10, 6), (38, .dup, 39, 0, 0), (39, .getfield 132, 42, 6, 5), (42, .iconst 1, 43, 0, 0), (43, .iadd, 44, 0, 0),
  (44, .putfield 132, 47, 6, 40), (47, .aload_n 0, 48, 0, 0), (48, .iload_n 2, 49, 2, 0), (49, .aload_n 0, 50, 0, 0), (50, .getfield 42, 53, 10, 6), (53, .getfield 120, 56, 6, 1), (56, .invokestatic 169, 59, 131, 2), (59, .invokevirtual 172, 62, 146, 1),
  (62, .pop, 63, 0, 0), (63, .iconst 1, 64, 0, 0), (64, .ireturn, 65, 0, 0)]
set_option maxRecDepth 20000 in
/-- 150: StoneHome.touched(I)I -/
def at_X10_touched : List (Nat × am_I) := [(0, .aload_n 0, 1, 0, 0), (1, .getfield 42, 4, 10, 6), (4, .getfield 110, 7, 6, 0), (7, .invokestatic 113, 10, 138, 1), (10, .istore_n 2, 11, 2, 0), (11, .aload_n 0, 12, 0, 0), (12, .getfield 42, 15, 10, 6), (15, .getfield 110, 18, 6, 0),
  (18, .invokestatic 117, 21, 139, 1), (21, .istore_n 3, 22, 3, 0), (22, .iload_n 1, 23, 1, 0), (23, .tableswitch 53 0 3 #[29, 35, 41, 47], 52, 76, 0), (52, .iinc 2 1, 55, 2, 0), (55, .goto 23, 58, 78, 0), (58, .iinc 2 (-1), 61, 2, 0), (61, .goto 17, 64, 78, 0),
  (64, .iinc 3 1, 67, 3, 0), (67, .goto 11, 70, 78, 0), (70, .iinc 3 (-1), 73, 3, 0), (73, .goto 5, 76, 78, 0), (76, .iconst (-1), 77, 0, 0), (77, .ireturn, 78, 0, 0), (78, .aload_n 0, 79, 0, 0), (79, .getfield 23, 82, 10, 3),
  (82, .iload_n 2, 83, 2, 0), (83, .iload_n 3, 84, 3, 0), (84, .invokevirtual 138, 87, 94, 2), (87, .iconst (-1), 88, 0, 0), (88, .if_icmp .ne 5, 91, 93, 0), (91, .iconst (-1), 92, 0, 0), (92, .ireturn, 93, 0, 0), (93, .iload_n 2, 94, 2, 0),
  (94, .iload_n 3, 95, 3, 0), (95, .invokestatic 142, 98, 130, 2), (98, .istore 4, 100, 4, 0), (100, .aload_n 0, 101, 0, 0), (101, .getfield 23, 104, 10, 3), (104, .iload 4, 106, 4, 0), (106, .invokevirtual 226, 109, 89, 1), (109, .ifCond .eq 8, 112, 117, 0),
  (112, .iload 4, 114, 4, 0), (114, .goto 4, 117, 118, 0), (117, .iconst (-1), 118, 0, 0), (118, .ireturn, 119, 0, 0)]
set_option maxRecDepth 20000 in
/-- 151: StoneHome.undo()Z -/
def at_X10_undo : List (Nat × am_I) := [(0, .aload_n 0, 1, 0, 0), (1, .getfield 49, 4, 10, 7), (4, .aload_n 0, 5, 0, 0), (5, .getfield 42, 8, 10, 6), (8, .invokevirtual 175, 11, 31, 1), (11, .ireturn, 12, 0, 0)]
set_option maxRecDepth 20000 in
/-- 152: StoneHome.brings(III)I -/
def at_X10_brings : List (Nat × am_I) := [(0, .aload_n 0, 1, 0, 0), (1, .getfield 23, 4, 10, 3), (4, .iload_n 1, 5, 1, 0), (5, .iload_n 2, 6, 2, 0), (6, .invokevirtual 179, 9, 105, 2), (9, .ifCond .eq 20, 12, 29, 0), (12, .iload_n 3, 13, 3, 0), (13, .ifCond .lt 16, 16, 29, 0),
  (16, .iload_n 3, 17, 3, 0), (17, .iconst 3, 18, 0, 0), (18, .if_icmp .gt 11, 21, 29, 0), (21, .aload_n 0, 22, 0, 0), (22, .iload_n 1, 23, 1, 0), (23, .invokevirtual 153, 26, 143, 1), (26, .ifCond .ne 5, 29, 31, 0), (29, .iconst (-1), 30, 0, 0),
  (30, .ireturn, 31, 0, 0), (31, .iload_n 1, 32, 1, 0), (32, .bipush 6, 34, 0, 0), (34, .imul, 35, 0, 0), (35, .iload_n 2, 36, 2, 0), (36, .iadd, 37, 0, 0), (37, .istore 4, 39, 4, 0), (39, .aload_n 0, 40, 0, 0),
  (40, .getfield 23, 43, 10, 3), (43, .aload_n 0, 44, 0, 0), (44, .getfield 42, 47, 10, 6), (47, .invokevirtual 182, 50, 83, 0), (50, .iload 4, 52, 4, 0), (52, .aload_n 0, 53, 0, 0), (53, .getfield 42, 56, 10, 6), (56, .getfield 126, 59, 6, 4),
  (59, .aload_n 0, 60, 0, 0), (60, .getfield 23, 63, 10, 3), (63, .getfield 129, 66, 7, 14), (66, .imul, 67, 0, 0), (67, .invokevirtual 185, 70, 104, 3), (70, .istore 5, 72, 5, 0), (72, .iload_n 3, 73, 3, 0), (73, .iconst 3, 74, 0, 0),
  (74, .if_icmp .ne 15, 77, 89, 0), (77, .iload 5, 79, 5, 0), (79, .iconst (-1), 80, 0, 0), (80, .if_icmp .ne 7, 83, 87, 0), (83, .iconst 1, 84, 0, 0), (84, .goto 4, 87, 88, 0), (87, .iconst 0, 88, 0, 0), (88, .ireturn, 89, 0, 0),
  (89, .iload 5, 91, 5, 0), (91, .iconst (-1), 92, 0, 0), (92, .if_icmp .ne 16, 95, 108, 0), (95, .aload_n 0, 96, 0, 0), (96, .getfield 42, 99, 10, 6), (99, .getfield 123, 102, 6, 2), (102, .ifCond .ne 6, 105, 108, 0), (105, .bipush (-2), 107, 0, 0),
  (107, .ireturn, 108, 0, 0), (108, .iload 5, 110, 5, 0), (110, .iconst (-1), 111, 0, 0), (111, .if_icmp .ne 13, 114, 124, 0), (114, .aload_n 0, 115, 0, 0), (115, .getfield 42, 118, 10, 6), (118, .invokevirtual 182, 121, 83, 0), (121, .goto 5, 124, 126, 0),
  (124, .iload 5, 126, 5, 0), (126, .istore 6, 128, 6, 0), (128, .iload_n 3, 129, 3, 0), (129, .iconst 2, 130, 0, 0), (130, .if_icmp .ne 8, 133, 138, 0), (133, .iload 6, 135, 6, 0), (135, .iconst 3, 136, 0, 0), (136, .irem, 137, 0, 0),
  (137, .ireturn, 138, 0, 0), (138, .iload_n 3, 139, 3, 0), (139, .ifCond .ne 13, 142, 152, 0), (142, .iload 6, 144, 6, 0), (144, .iconst 3, 145, 0, 0), (145, .idiv, 146, 0, 0), (146, .invokestatic 113, 149, 138, 1), (149, .goto 10, 152, 159, 0),
  (152, .iload 6, 154, 6, 0), (154, .iconst 3, 155, 0, 0), (155, .idiv, 156, 0, 0), (156, .invokestatic 117, 159, 139, 1), (159, .ireturn, 160, 0, 0)]
set_option maxRecDepth 20000 in
/-- 153: StoneHome.home(IZ)I -/
def at_X10_home : List (Nat × am_I) := [(0, .iload_n 1, 1, 1, 0), (1, .invokestatic 189, 4, 154, 1), (4, .ifCond .eq 16, 7, 20, 0), (7, .aload_n 0, 8, 0, 0), (8, .iload_n 1, 9, 1, 0), (9, .invokevirtual 192, 12, 155, 1), (12, .iload_n 1, 13, 1, 0), (13, .iload_n 2, 14, 2, 0),
  (14, .invokestatic 195, 17, 157, 3), (17, .goto 4, 20, 21, 0), (20, .iconst (-1), 21, 0, 0), (21, .ireturn, 22, 0, 0)]
set_option maxRecDepth 20000 in
/-- 154: StoneHome.isSpan(I)Z -/
def at_X10_isSpan : List (Nat × am_I) := [(0, .iload_n 0, 1, 0, 0), (1, .ifCond .lt 13, 4, 14, 0), (4, .iload_n 0, 5, 0, 0), (5, .bipush 10, 7, 0, 0), (7, .if_icmp .gt 7, 10, 14, 0), (10, .iconst 1, 11, 0, 0), (11, .goto 4, 14, 15, 0), (14, .iconst 0, 15, 0, 0),
  (15, .ireturn, 16, 0, 0)]
set_option maxRecDepth 20000 in
/-- 155: StoneHome.homeChance(I)I -/
def at_X10_homeChance : List (Nat × am_I) := [(0, .aload_n 0, 1, 0, 0), (1, .getfield 42, 4, 10, 6), (4, .getfield 107, 7, 6, 6), (7, .iconst 2, 8, 0, 0), (8, .if_icmp .ne 5, 11, 13, 0), (11, .iconst 0, 12, 0, 0), (12, .ireturn, 13, 0, 0), (13, .aload_n 0, 14, 0, 0),
  (14, .getfield 71, 17, 10, 10), (17, .aload_n 0, 18, 0, 0), (18, .getfield 42, 21, 10, 6), (21, .getfield 126, 24, 6, 4), (24, .iload_n 1, 25, 1, 0), (25, .iconst (-1), 26, 0, 0), (26, .iconst (-1), 27, 0, 0), (27, .invokevirtual 216, 30, 2, 4),
  (30, .aload_n 0, 31, 0, 0), (31, .getfield 71, 34, 10, 10), (34, .aload_n 0, 35, 0, 0), (35, .getfield 42, 38, 10, 6), (38, .invokevirtual 182, 41, 83, 0), (41, .aload_n 0, 42, 0, 0), (42, .getfield 42, 45, 10, 6), (45, .getfield 123, 48, 6, 2),
  (48, .invokevirtual 210, 51, 10, 2), (51, .ireturn, 52, 0, 0)]
set_option maxRecDepth 20000 in
/-- 156: StoneHome.sixesOf(I)I -/
def at_X10_sixesOf : List (Nat × am_I) := [(0, .iload_n 0, 1, 0, 0), (1, .ifCond .lt 19, 4, 20, 0), (4, .iload_n 0, 5, 0, 0), (5, .getstatic 318, 8, 0, 0), (8, .arraylength, 9, 0, 0), (9, .if_icmp .ge 11, 12, 20, 0), (12, .getstatic 318, 15, 0, 0), (15, .iload_n 0, 16, 0, 0),
  (16, .iaload, 17, 0, 0), (17, .goto 4, 20, 21, 0), (20, .iconst 1, 21, 0, 0), (21, .ireturn, 22, 0, 0)]
set_option maxRecDepth 20000 in
/-- 157: StoneHome.fraction(IIZ)I -/
def at_X10_fraction : List (Nat × am_I) := [(0, .iload_n 1, 1, 1, 0), (1, .invokestatic 202, 4, 156, 1), (4, .istore_n 3, 5, 3, 0), (5, .iload_n 3, 6, 3, 0), (6, .iload_n 0, 7, 0, 0), (7, .invokestatic 322, 10, 158, 2), (10, .istore 4, 12, 4, 0), (12, .iload 4, 14, 4, 0),
  (14, .ifCond .ne 5, 17, 19, 0), (17, .iconst 0, 18, 0, 0), (18, .ireturn, 19, 0, 0), (19, .iload_n 2, 20, 2, 0), (20, .ifCond .eq 7, 23, 27, 0), (23, .iload_n 3, 24, 3, 0), (24, .goto 4, 27, 28, 0), (27, .iload_n 0, 28, 0, 0),
  (28, .iload 4, 30, 4, 0), (30, .idiv, 31, 0, 0), (31, .ireturn, 32, 0, 0)]
set_option maxRecDepth 20000 in
/-- 158: StoneHome.commonDivisor(II)I -/
def at_X10_commonDivisor : List (Nat × am_I) := [(0, .iload_n 0, 1, 0, 0), (1, .istore_n 2, 2, 2, 0), (2, .iload_n 1, 3, 1, 0), (3, .istore_n 3, 4, 3, 0), (4, .iconst 0, 5, 0, 0), (5, .istore 4, 7, 4, 0), (7, .iload 4, 9, 4, 0), (9, .bipush 64, 11, 0, 0),
  (11, .if_icmp .ge 23, 14, 34, 0), (14, .iload_n 3, 15, 3, 0), (15, .ifCond .eq 19, 18, 34, 0), (18, .iload_n 2, 19, 2, 0), (19, .iload_n 3, 20, 3, 0), (20, .irem, 21, 0, 0), (21, .istore 5, 23, 5, 0), (23, .iload_n 3, 24, 3, 0),
  (24, .istore_n 2, 25, 2, 0), (25, .iload 5, 27, 5, 0), (27, .istore_n 3, 28, 3, 0), (28, .iinc 4 1, 31, 4, 0), (31, .goto (-24), 34, 7, 0), (34, .iload_n 2, 35, 2, 0), (35, .ireturn, 36, 0, 0)]
set_option maxRecDepth 20000 in
/-- 159: StoneHome.best(I)I -/
def at_X10_best : List (Nat × am_I) := [(0, .iload_n 1, 1, 1, 0), (1, .invokestatic 189, 4, 154, 1), (4, .ifCond .eq 7, 7, 11, 0), (7, .iload_n 1, 8, 1, 0), (8, .ifCond .ne 5, 11, 13, 0), (11, .iconst (-1), 12, 0, 0), (12, .ireturn, 13, 0, 0), (13, .aload_n 0, 14, 0, 0),
  (14, .getfield 42, 17, 10, 6), (17, .getfield 107, 20, 6, 6), (20, .ifCond .ne 18, 23, 38, 0), (23, .aload_n 0, 24, 0, 0), (24, .aload_n 0, 25, 0, 0), (25, .getfield 42, 28, 10, 6), (28, .getfield 110, 31, 6, 0), (31, .iload_n 1, 32, 1, 0),
  (32, .invokevirtual 199, 35, 160, 2), (35, .goto 5, 38, 40, 0), (38, .bipush (-2), 40, 0, 0), (40, .ireturn, 41, 0, 0)]
set_option maxRecDepth 20000 in
/-- 160: StoneHome.bestFrom(II)I -/
def at_X10_bestFrom : List (Nat × am_I) := [(0, .aload_n 0, 1, 0, 0), (1, .getfield 71, 4, 10, 10), (4, .aload_n 0, 5, 0, 0), (5, .getfield 42, 8, 10, 6), (8, .getfield 126, 11, 6, 4), (11, .iload_n 2, 12, 2, 0), (12, .iconst (-1), 13, 0, 0), (13, .iconst (-1), 14, 0, 0),
  (14, .invokevirtual 216, 17, 2, 4), (17, .aload_n 0, 18, 0, 0), (18, .getfield 71, 21, 10, 10), (21, .aload_n 0, 22, 0, 0), (22, .getfield 42, 25, 10, 6), (25, .getfield 126, 28, 6, 4), (28, .iload_n 1, 29, 1, 0), (29, .aload_n 0, 30, 0, 0),
  (30, .getfield 42, 33, 10, 6), (33, .getfield 120, 36, 6, 1), (36, .invokestatic 169, 39, 131, 2), (39, .aload_n 0, 40, 0, 0), (40, .getfield 42, 43, 10, 6), (43, .getfield 123, 46, 6, 2), (46, .invokevirtual 315, 49, 11, 3), (49, .ireturn, 50, 0, 0)]
set_option maxRecDepth 20000 in
/-- 161: StoneHome.sure(I)I -/
def at_X10_sure : List (Nat × am_I) := [(0, .iload_n 1, 1, 1, 0), (1, .invokestatic 189, 4, 154, 1), (4, .ifCond .ne 5, 7, 9, 0), (7, .iconst (-1), 8, 0, 0), (8, .ireturn, 9, 0, 0), (9, .aload_n 0, 10, 0, 0), (10, .iload_n 1, 11, 1, 0), (11, .invokevirtual 192, 14, 155, 1),
  (14, .iload_n 1, 15, 1, 0), (15, .invokestatic 202, 18, 156, 1), (18, .if_icmp .ne 7, 21, 25, 0), (21, .iconst 1, 22, 0, 0), (22, .goto 4, 25, 26, 0), (25, .iconst 0, 26, 0, 0), (26, .ireturn, 27, 0, 0)]
set_option maxRecDepth 20000 in
/-- 162: StoneHome.least(I)I -/
def at_X10_least : List (Nat × am_I) := [(0, .iload_n 1, 1, 1, 0), (1, .ifCond .lt 9, 4, 10, 0), (4, .iload_n 1, 5, 1, 0), (5, .bipush 100, 7, 0, 0), (7, .if_icmp .le 5, 10, 12, 0), (10, .iconst (-1), 11, 0, 0), (11, .ireturn, 12, 0, 0), (12, .iconst 0, 13, 0, 0),
  (13, .istore_n 2, 14, 2, 0), (14, .iload_n 2, 15, 2, 0), (15, .bipush 10, 17, 0, 0), (17, .if_icmp .gt 33, 20, 50, 0), (20, .ldc2_w 205, 23, 0, 100), (23, .aload_n 0, 24, 0, 0), (24, .iload_n 2, 25, 2, 0), (25, .invokevirtual 192, 28, 155, 1),
  (28, .i2l, 29, 0, 0), (29, .lmul, 30, 0, 0), (30, .iload_n 1, 31, 1, 0), (31, .i2l, 32, 0, 0), (32, .iload_n 2, 33, 2, 0), (33, .invokestatic 202, 36, 156, 1), (36, .i2l, 37, 0, 0), (37, .lmul, 38, 0, 0),
  (38, .lcmp, 39, 0, 0), (39, .ifCond .lt 5, 42, 44, 0), (42, .iload_n 2, 43, 2, 0), (43, .ireturn, 44, 0, 0), (44, .iinc 2 1, 47, 2, 0), (47, .goto (-33), 50, 14, 0), (50, .bipush (-2), 52, 0, 0), (52, .ireturn, 53, 0, 0)]
set_option maxRecDepth 20000 in
/-- 163: StoneHome.rule(IIZ)I -/
def at_X10_rule : List (Nat × am_I) := [(0, .aload_n 0, 1, 0, 0), (1, .getfield 23, 4, 10, 3), (4, .iload_n 1, 5, 1, 0), (5, .invokevirtual 149, 8, 96, 1), (8, .ifCond .eq 10, 11, 18, 0), (11, .iload_n 2, 12, 2, 0), (12, .invokestatic 189, 15, 154, 1), (15, .ifCond .ne 5, 18, 20, 0),
  (18, .iconst (-1), 19, 0, 0), (19, .ireturn, 20, 0, 0), (20, .aload_n 0, 21, 0, 0), (21, .iload_n 1, 22, 1, 0), (22, .iload_n 2, 23, 2, 0), (23, .iconst (-1), 24, 0, 0), (24, .invokevirtual 207, 27, 164, 3), (27, .iload_n 2, 28, 2, 0),
  (28, .iload_n 3, 29, 3, 0), (29, .invokestatic 195, 32, 157, 3), (32, .ireturn, 33, 0, 0)]
set_option maxRecDepth 20000 in
/-- 164: StoneHome.ruledChance(III)I -/
def at_X10_ruledChance : List (Nat × am_I) := [(0, .aload_n 0, 1, 0, 0), (1, .getfield 42, 4, 10, 6), (4, .getfield 107, 7, 6, 6), (7, .iconst 2, 8, 0, 0), (8, .if_icmp .ne 5, 11, 13, 0), (11, .iconst 0, 12, 0, 0), (12, .ireturn, 13, 0, 0), (13, .aload_n 0, 14, 0, 0),
  (14, .getfield 71, 17, 10, 10), (17, .aload_n 0, 18, 0, 0), (18, .getfield 42, 21, 10, 6), (21, .getfield 126, 24, 6, 4), (24, .iload_n 2, 25, 2, 0), (25, .iload_n 1, 26, 1, 0), (26, .iload_n 3, 27, 3, 0), (27, .invokevirtual 216, 30, 2, 4),
  (30, .aload_n 0, 31, 0, 0), (31, .getfield 71, 34, 10, 10), (34, .aload_n 0, 35, 0, 0), (35, .getfield 42, 38, 10, 6), (38, .invokevirtual 182, 41, 83, 0), (41, .aload_n 0, 42, 0, 0), (42, .getfield 42, 45, 10, 6), (45, .getfield 123, 48, 6, 2),
  (48, .invokevirtual 210, 51, 10, 2), (51, .ireturn, 52, 0, 0)]
set_option maxRecDepth 20000 in
/-- 165: StoneHome.comes(IIIIZ)I -/
def at_X10_comes : List (Nat × am_I) := [(0, .aload_n 0, 1, 0, 0), (1, .getfield 23, 4, 10, 3), (4, .iload_n 1, 5, 1, 0), (5, .invokevirtual 149, 8, 96, 1), (8, .ifCond .eq 24, 11, 32, 0), (11, .iload_n 2, 12, 2, 0), (12, .invokestatic 189, 15, 154, 1), (15, .ifCond .eq 17, 18, 32, 0),
  (18, .aload_n 0, 19, 0, 0), (19, .getfield 23, 22, 10, 3), (22, .iload_n 3, 23, 3, 0), (23, .iload 4, 25, 4, 0), (25, .invokevirtual 138, 28, 94, 2), (28, .iconst (-1), 29, 0, 0), (29, .if_icmp .ne 5, 32, 34, 0), (32, .iconst (-1), 33, 0, 0),
  (33, .ireturn, 34, 0, 0), (34, .aload_n 0, 35, 0, 0), (35, .iload_n 1, 36, 1, 0), (36, .iload_n 2, 37, 2, 0), (37, .iload_n 3, 38, 3, 0), (38, .iload 4, 40, 4, 0), (40, .invokestatic 142, 43, 130, 2), (43, .invokevirtual 207, 46, 164, 3),
  (46, .iload_n 2, 47, 2, 0), (47, .iload 5, 49, 5, 0), (49, .invokestatic 195, 52, 157, 3), (52, .ireturn, 53, 0, 0)]
set_option maxRecDepth 20000 in
/-- 166: StoneHome.worth(IZZ)I -/
def at_X10_worth : List (Nat × am_I) := [(0, .iload_n 1, 1, 1, 0), (1, .invokestatic 189, 4, 154, 1), (4, .ifCond .ne 5, 7, 9, 0), (7, .iconst (-1), 8, 0, 0), (8, .ireturn, 9, 0, 0), (9, .aload_n 0, 10, 0, 0), (10, .getfield 42, 13, 10, 6), (13, .getfield 107, 16, 6, 6),
  (16, .ifCond .eq 10, 19, 26, 0), (19, .iconst 0, 20, 0, 0), (20, .iload_n 1, 21, 1, 0), (21, .iload_n 3, 22, 3, 0), (22, .invokestatic 195, 25, 157, 3), (25, .ireturn, 26, 0, 0), (26, .aload_n 0, 27, 0, 0), (27, .iload_n 1, 28, 1, 0),
  (28, .invokevirtual 192, 31, 155, 1), (31, .istore 4, 33, 4, 0), (33, .iload_n 2, 34, 2, 0), (34, .ifCond .eq 29, 37, 63, 0), (37, .aload_n 0, 38, 0, 0), (38, .getfield 71, 41, 10, 10), (41, .aload_n 0, 42, 0, 0), (42, .getfield 42, 45, 10, 6),
  (45, .invokevirtual 182, 48, 83, 0), (48, .aload_n 0, 49, 0, 0), (49, .getfield 42, 52, 10, 6), (52, .getfield 123, 55, 6, 2), (55, .iconst 1, 56, 0, 0), (56, .iadd, 57, 0, 0), (57, .invokevirtual 210, 60, 10, 2), (60, .goto 9, 63, 69, 0),
  (63, .aload_n 0, 64, 0, 0), (64, .iload 4, 66, 4, 0), (66, .invokevirtual 213, 69, 167, 1), (69, .istore 5, 71, 5, 0), (71, .iload 5, 73, 5, 0), (73, .iload 4, 75, 4, 0), (75, .isub, 76, 0, 0), (76, .iload_n 1, 77, 1, 0),
  (77, .iload_n 3, 78, 3, 0), (78, .invokestatic 195, 81, 157, 3), (81, .ireturn, 82, 0, 0)]
set_option maxRecDepth 20000 in
/-- 167: StoneHome.touchedChance(I)I -/
def at_X10_touchedChance : List (Nat × am_I) := [(0, .iload_n 1, 1, 1, 0), (1, .istore_n 2, 2, 2, 0), (2, .iconst 0, 3, 0, 0), (3, .istore_n 3, 4, 3, 0), (4, .iload_n 3, 5, 3, 0), (5, .iconst 4, 6, 0, 0), (6, .if_icmp .ge 53, 9, 59, 0), (9, .aload_n 0, 10, 0, 0),
  (10, .iload_n 3, 11, 3, 0), (11, .invokevirtual 162, 14, 150, 1), (14, .istore 4, 16, 4, 0), (16, .iload 4, 18, 4, 0), (18, .iconst (-1), 19, 0, 0), (19, .if_icmp .eq 34, 22, 53, 0), (22, .iload_n 2, 23, 2, 0), (23, .aload_n 0, 24, 0, 0),
  (24, .getfield 71, 27, 10, 10), (27, .iload 4, 29, 4, 0), (29, .aload_n 0, 30, 0, 0), (30, .getfield 42, 33, 10, 6), (33, .getfield 120, 36, 6, 1), (36, .invokestatic 169, 39, 131, 2), (39, .aload_n 0, 40, 0, 0), (40, .getfield 42, 43, 10, 6),
  (43, .getfield 123, 46, 6, 2), (46, .invokevirtual 210, 49, 10, 2), (49, .invokestatic 310, 52, 996, 2), (52, .istore_n 2, 53, 2, 0), (53, .iinc 3 1, 56, 3, 0), (56, .goto (-52), 59, 4, 0), (59, .iload_n 2, 60, 2, 0), (60, .ireturn, 61, 0, 0)]
set_option maxRecDepth 20000 in
/-- 168: StoneHome.face(I)I -/
def at_X10_face : List (Nat × am_I) := [(0, .iload_n 1, 1, 1, 0), (1, .invokestatic 189, 4, 154, 1), (4, .ifCond .ne 5, 7, 9, 0), (7, .iconst (-1), 8, 0, 0), (8, .ireturn, 9, 0, 0), (9, .aload_n 0, 10, 0, 0), (10, .getfield 42, 13, 10, 6), (13, .getfield 107, 16, 6, 6),
  (16, .ifCond .eq 6, 19, 22, 0), (19, .bipush (-2), 21, 0, 0), (21, .ireturn, 22, 0, 0), (22, .aload_n 0, 23, 0, 0), (23, .getfield 71, 26, 10, 10), (26, .aload_n 0, 27, 0, 0), (27, .getfield 42, 30, 10, 6), (30, .getfield 126, 33, 6, 4),
  (33, .iload_n 1, 34, 1, 0), (34, .iconst (-1), 35, 0, 0), (35, .iconst (-1), 36, 0, 0), (36, .invokevirtual 216, 39, 2, 4), (39, .iconst (-1), 40, 0, 0), (40, .istore_n 2, 41, 2, 0), (41, .iconst 0, 42, 0, 0), (42, .istore_n 3, 43, 3, 0),
  (43, .iconst 0, 44, 0, 0), (44, .istore 4, 46, 4, 0), (46, .iload 4, 48, 4, 0), (48, .aload_n 0, 49, 0, 0), (49, .getfield 23, 52, 10, 3), (52, .getfield 220, 55, 7, 3), (55, .if_icmp .ge 49, 58, 104, 0), (58, .aload_n 0, 59, 0, 0),
  (59, .getfield 71, 62, 10, 10), (62, .aload_n 0, 63, 0, 0), (63, .getfield 42, 66, 10, 6), (66, .getfield 110, 69, 6, 0), (69, .iload 4, 71, 4, 0), (71, .invokestatic 169, 74, 131, 2), (74, .aload_n 0, 75, 0, 0), (75, .getfield 42, 78, 10, 6),
  (78, .getfield 123, 81, 6, 2), (81, .invokevirtual 210, 84, 10, 2), (84, .istore 5, 86, 5, 0), (86, .iload 5, 88, 5, 0), (88, .iload_n 2, 89, 2, 0), (89, .if_icmp .le 9, 92, 98, 0), (92, .iload 5, 94, 5, 0), (94, .istore_n 2, 95, 2, 0),
  (95, .iload 4, 97, 4, 0), (97, .istore_n 3, 98, 3, 0), (98, .iinc 4 1, 101, 4, 0), (101, .goto (-55), 104, 46, 0), (104, .iload_n 3, 105, 3, 0), (105, .ireturn, 106, 0, 0)]
set_option maxRecDepth 20000 in
/-- 169: StoneHome.side(I)I -/
def at_X10_side : List (Nat × am_I) := [(0, .iload_n 1, 1, 1, 0), (1, .invokestatic 189, 4, 154, 1), (4, .ifCond .ne 5, 7, 9, 0), (7, .iconst (-1), 8, 0, 0), (8, .ireturn, 9, 0, 0), (9, .aload_n 0, 10, 0, 0), (10, .getfield 42, 13, 10, 6), (13, .getfield 107, 16, 6, 6),
  (16, .ifCond .eq 6, 19, 22, 0), (19, .bipush (-2), 21, 0, 0), (21, .ireturn, 22, 0, 0), (22, .aload_n 0, 23, 0, 0), (23, .getfield 71, 26, 10, 10), (26, .aload_n 0, 27, 0, 0), (27, .getfield 42, 30, 10, 6), (30, .getfield 126, 33, 6, 4),
  (33, .iload_n 1, 34, 1, 0), (34, .iconst (-1), 35, 0, 0), (35, .iconst (-1), 36, 0, 0), (36, .invokevirtual 216, 39, 2, 4), (39, .iconst (-1), 40, 0, 0), (40, .istore_n 2, 41, 2, 0), (41, .iconst 0, 42, 0, 0), (42, .istore_n 3, 43, 3, 0),
  (43, .iconst 0, 44, 0, 0), (44, .istore 4, 46, 4, 0), (46, .iload 4, 48, 4, 0), (48, .aload_n 0, 49, 0, 0), (49, .getfield 23, 52, 10, 3), (52, .getfield 223, 55, 7, 1), (55, .if_icmp .ge 82, 58, 137, 0), (58, .aload_n 0, 59, 0, 0),
  (59, .getfield 42, 62, 10, 6), (62, .getfield 110, 65, 6, 0), (65, .invokestatic 113, 68, 138, 1), (68, .iload 4, 70, 4, 0), (70, .invokestatic 142, 73, 130, 2), (73, .istore 5, 75, 5, 0), (75, .aload_n 0, 76, 0, 0), (76, .getfield 23, 79, 10, 3),
  (79, .iload 5, 81, 5, 0), (81, .invokevirtual 226, 84, 89, 1), (84, .ifCond .eq 32, 87, 116, 0), (87, .aload_n 0, 88, 0, 0), (88, .getfield 71, 91, 10, 10), (91, .iload 5, 93, 5, 0), (93, .aload_n 0, 94, 0, 0), (94, .getfield 42, 97, 10, 6),
  (97, .getfield 120, 100, 6, 1), (100, .invokestatic 169, 103, 131, 2), (103, .aload_n 0, 104, 0, 0), (104, .getfield 42, 107, 10, 6), (107, .getfield 123, 110, 6, 2), (110, .invokevirtual 210, 113, 10, 2), (113, .goto 4, 116, 117, 0), (116, .iconst (-1), 117, 0, 0),
  (117, .istore 6, 119, 6, 0), (119, .iload 6, 121, 6, 0), (121, .iload_n 2, 122, 2, 0), (122, .if_icmp .le 9, 125, 131, 0), (125, .iload 6, 127, 6, 0), (127, .istore_n 2, 128, 2, 0), (128, .iload 4, 130, 4, 0), (130, .istore_n 3, 131, 3, 0),
  (131, .iinc 4 1, 134, 4, 0), (134, .goto (-88), 137, 46, 0), (137, .iload_n 3, 138, 3, 0), (138, .ireturn, 139, 0, 0)]
set_option maxRecDepth 20000 in
/-- 170: StoneHome.goBy(I)I -/
def at_X10_goBy : List (Nat × am_I) := [(0, .iload_n 1, 1, 1, 0), (1, .invokestatic 189, 4, 154, 1), (4, .ifCond .ne 5, 7, 9, 0), (7, .iconst (-1), 8, 0, 0), (8, .ireturn, 9, 0, 0), (9, .aload_n 0, 10, 0, 0), (10, .getfield 42, 13, 10, 6), (13, .getfield 107, 16, 6, 6),
  (16, .ifCond .eq 6, 19, 22, 0), (19, .bipush (-2), 21, 0, 0), (21, .ireturn, 22, 0, 0), (22, .iconst (-1), 23, 0, 0), (23, .istore_n 2, 24, 2, 0), (24, .iconst 0, 25, 0, 0), (25, .istore_n 3, 26, 3, 0), (26, .iconst 0, 27, 0, 0),
  (27, .istore 4, 29, 4, 0), (29, .iload 4, 31, 4, 0), (31, .iconst 5, 32, 0, 0), (32, .if_icmp .gt 30, 35, 62, 0), (35, .aload_n 0, 36, 0, 0), (36, .iload 4, 38, 4, 0), (38, .iload_n 1, 39, 1, 0), (39, .invokevirtual 229, 42, 171, 2),
  (42, .istore 5, 44, 5, 0), (44, .iload 5, 46, 5, 0), (46, .iload_n 2, 47, 2, 0), (47, .if_icmp .le 9, 50, 56, 0), (50, .iload 5, 52, 5, 0), (52, .istore_n 2, 53, 2, 0), (53, .iload 4, 55, 4, 0), (55, .istore_n 3, 56, 3, 0),
  (56, .iinc 4 1, 59, 4, 0), (59, .goto (-30), 62, 29, 0), (62, .iload_n 3, 63, 3, 0), (63, .ireturn, 64, 0, 0)]
set_option maxRecDepth 20000 in
/-- 171: StoneHome.chanceBehind(II)I -/
def at_X10_chanceBehind : List (Nat × am_I) := [(0, .aload_n 0, 1, 0, 0), (1, .getfield 42, 4, 10, 6), (4, .getfield 123, 7, 6, 2), (7, .istore_n 3, 8, 3, 0), (8, .iconst 1, 9, 0, 0), (9, .istore 4, 11, 4, 0), (11, .iload 4, 13, 4, 0), (13, .iload_n 1, 14, 1, 0),
  (14, .if_icmp .gt 47, 17, 61, 0), (17, .aload_n 0, 18, 0, 0), (18, .getfield 23, 21, 10, 3), (21, .aload_n 0, 22, 0, 0), (22, .getfield 42, 25, 10, 6), (25, .getfield 110, 28, 6, 0), (28, .aload_n 0, 29, 0, 0), (29, .getfield 42, 32, 10, 6),
  (32, .getfield 126, 35, 6, 4), (35, .iload 4, 37, 4, 0), (37, .iadd, 38, 0, 0), (38, .aload_n 0, 39, 0, 0), (39, .getfield 23, 42, 10, 3), (42, .getfield 129, 45, 7, 14), (45, .imul, 46, 0, 0), (46, .invokevirtual 145, 49, 95, 2),
  (49, .ifCond .eq 6, 52, 55, 0), (52, .iinc 3 (-1), 55, 3, 0), (55, .iinc 4 1, 58, 4, 0), (58, .goto (-47), 61, 11, 0), (61, .iload_n 3, 62, 3, 0), (62, .ifCond .ge 5, 65, 67, 0), (65, .iconst 0, 66, 0, 0), (66, .ireturn, 67, 0, 0),
  (67, .aload_n 0, 68, 0, 0), (68, .getfield 71, 71, 10, 10), (71, .aload_n 0, 72, 0, 0), (72, .getfield 42, 75, 10, 6), (75, .getfield 126, 78, 6, 4), (78, .iload_n 1, 79, 1, 0), (79, .iadd, 80, 0, 0), (80, .iload_n 2, 81, 2, 0),
  (81, .iconst (-1), 82, 0, 0), (82, .iconst (-1), 83, 0, 0), (83, .invokevirtual 216, 86, 2, 4), (86, .aload_n 0, 87, 0, 0), (87, .getfield 71, 90, 10, 10), (90, .aload_n 0, 91, 0, 0), (91, .getfield 42, 94, 10, 6), (94, .invokevirtual 182, 97, 83, 0),
  (97, .iload_n 3, 98, 3, 0), (98, .invokevirtual 210, 101, 10, 2), (101, .ireturn, 102, 0, 0)]
set_option maxRecDepth 20000 in
/-- 172: StoneHome.plan(III)I -/
def at_X10_plan : List (Nat × am_I) := [(0, .aload_n 0, 1, 0, 0), (1, .getfield 23, 4, 10, 3), (4, .iload_n 2, 5, 2, 0), (5, .iload_n 3, 6, 3, 0), (6, .invokevirtual 138, 9, 94, 2), (9, .istore 4, 11, 4, 0), (11, .iload_n 1, 12, 1, 0), (12, .invokestatic 189, 15, 154, 1),
  (15, .ifCond .eq 13, 18, 28, 0), (18, .iload_n 1, 19, 1, 0), (19, .ifCond .eq 9, 22, 28, 0), (22, .iload 4, 24, 4, 0), (24, .iconst (-1), 25, 0, 0), (25, .if_icmp .ne 5, 28, 30, 0), (28, .iconst (-1), 29, 0, 0), (29, .ireturn, 30, 0, 0),
  (30, .iload 4, 32, 4, 0), (32, .iconst 3, 33, 0, 0), (33, .if_icmp .gt 16, 36, 49, 0), (36, .aload_n 0, 37, 0, 0), (37, .iload_n 2, 38, 2, 0), (38, .iload_n 3, 39, 3, 0), (39, .invokestatic 142, 42, 130, 2), (42, .iload_n 1, 43, 1, 0),
  (43, .invokevirtual 199, 46, 160, 2), (46, .goto 5, 49, 51, 0), (49, .bipush (-2), 51, 0, 0), (51, .ireturn, 52, 0, 0)]
set_option maxRecDepth 20000 in
/-- 173: StoneHome.trap(I)I -/
def at_X10_trap : List (Nat × am_I) := [(0, .iload_n 1, 1, 1, 0), (1, .invokestatic 189, 4, 154, 1), (4, .ifCond .ne 5, 7, 9, 0), (7, .iconst (-1), 8, 0, 0), (8, .ireturn, 9, 0, 0), (9, .aload_n 0, 10, 0, 0), (10, .getfield 71, 13, 10, 10), (13, .aload_n 0, 14, 0, 0),
  (14, .getfield 42, 17, 10, 6), (17, .getfield 126, 20, 6, 4), (20, .iload_n 1, 21, 1, 0), (21, .iconst (-1), 22, 0, 0), (22, .iconst (-1), 23, 0, 0), (23, .invokevirtual 216, 26, 2, 4), (26, .iconst 0, 27, 0, 0), (27, .istore_n 2, 28, 2, 0),
  (28, .iconst 0, 29, 0, 0), (29, .istore_n 3, 30, 3, 0), (30, .iload_n 3, 31, 3, 0), (31, .bipush 32, 33, 0, 0), (33, .if_icmp .ge 31, 36, 64, 0), (36, .aload_n 0, 37, 0, 0), (37, .getfield 23, 40, 10, 3), (40, .iload_n 3, 41, 3, 0),
  (41, .invokevirtual 226, 44, 89, 1), (44, .ifCond .eq 14, 47, 58, 0), (47, .aload_n 0, 48, 0, 0), (48, .iload_n 3, 49, 3, 0), (49, .invokevirtual 232, 52, 174, 1), (52, .ifCond .eq 6, 55, 58, 0), (55, .iinc 2 1, 58, 2, 0), (58, .iinc 3 1, 61, 3, 0),
  (61, .goto (-31), 64, 30, 0), (64, .iload_n 2, 65, 2, 0), (65, .ireturn, 66, 0, 0)]
set_option maxRecDepth 20000 in
/-- 174: StoneHome.isTrap(I)Z -/
def at_X10_isTrap : List (Nat × am_I) := [(0, .iconst 0, 1, 0, 0), (1, .istore_n 2, 2, 2, 0), (2, .iload_n 2, 3, 2, 0), (3, .aload_n 0, 4, 0, 0), (4, .getfield 23, 7, 10, 3), (7, .getfield 220, 10, 7, 3), (10, .if_icmp .ge 33, 13, 43, 0), (13, .aload_n 0, 14, 0, 0),
  (14, .getfield 71, 17, 10, 10), (17, .iload_n 1, 18, 1, 0), (18, .iload_n 2, 19, 2, 0), (19, .invokestatic 169, 22, 131, 2), (22, .aload_n 0, 23, 0, 0), (23, .getfield 42, 26, 10, 6), (26, .getfield 123, 29, 6, 2), (29, .invokevirtual 210, 32, 10, 2),
  (32, .ifCond .eq 5, 35, 37, 0), (35, .iconst 0, 36, 0, 0), (36, .ireturn, 37, 0, 0), (37, .iinc 2 1, 40, 2, 0), (40, .goto (-38), 43, 2, 0), (43, .iconst 1, 44, 0, 0), (44, .ireturn, 45, 0, 0)]
set_option maxRecDepth 20000 in
/-- 175: StoneHome.first(IZ)I -/
def at_X10_first : List (Nat × am_I) := [(0, .iload_n 1, 1, 1, 0), (1, .iconst 1, 2, 0, 0), (2, .if_icmp .lt 8, 5, 10, 0), (5, .iload_n 1, 6, 1, 0), (6, .iconst 3, 7, 0, 0), (7, .if_icmp .le 5, 10, 12, 0), (10, .iconst (-1), 11, 0, 0), (11, .ireturn, 12, 0, 0),
  (12, .aload_n 0, 13, 0, 0), (13, .getfield 42, 16, 10, 6), (16, .getfield 107, 19, 6, 6), (19, .ifCond .eq 6, 22, 25, 0), (22, .bipush (-2), 24, 0, 0), (24, .ireturn, 25, 0, 0), (25, .iconst 2, 26, 0, 0), (26, .iload_n 1, 27, 1, 0),
  (27, .imul, 28, 0, 0), (28, .iconst 1, 29, 0, 0), (29, .isub, 30, 0, 0), (30, .istore_n 3, 31, 3, 0), (31, .aload_n 0, 32, 0, 0), (32, .getfield 78, 35, 10, 11), (35, .aload_n 0, 36, 0, 0), (36, .getfield 42, 39, 10, 6),
  (39, .getfield 126, 42, 6, 4), (42, .iload_n 3, 43, 3, 0), (43, .aload_n 0, 44, 0, 0), (44, .getfield 42, 47, 10, 6), (47, .invokevirtual 182, 50, 83, 0), (50, .aload_n 0, 51, 0, 0), (51, .getfield 23, 54, 10, 3), (54, .invokevirtual 235, 57, 107, 0),
  (57, .invokevirtual 238, 60, 34, 4), (60, .iload_n 3, 61, 3, 0), (61, .iload_n 2, 62, 2, 0), (62, .invokestatic 195, 65, 157, 3), (65, .ireturn, 66, 0, 0)]
set_option maxRecDepth 20000 in
/-- 176: StoneHome.can()I -/
def at_X10_can : List (Nat × am_I) := [(0, .iconst 0, 1, 0, 0), (1, .istore_n 1, 2, 1, 0), (2, .iconst 0, 3, 0, 0), (3, .istore_n 2, 4, 2, 0), (4, .iload_n 2, 5, 2, 0), (5, .aload_n 0, 6, 0, 0), (6, .getfield 23, 9, 10, 3), (9, .getfield 241, 12, 7, 4),
  (12, .if_icmp .ge 23, 15, 35, 0), (15, .aload_n 0, 16, 0, 0), (16, .iload_n 2, 17, 2, 0), (17, .invokevirtual 153, 20, 143, 1), (20, .ifCond .eq 9, 23, 29, 0), (23, .iload_n 1, 24, 1, 0), (24, .iconst 1, 25, 0, 0), (25, .iload_n 2, 26, 2, 0),
  (26, .ishl, 27, 0, 0), (27, .ior, 28, 0, 0), (28, .istore_n 1, 29, 1, 0), (29, .iinc 2 1, 32, 2, 0), (32, .goto (-28), 35, 4, 0), (35, .iload_n 1, 36, 1, 0), (36, .ireturn, 37, 0, 0)]
set_option maxRecDepth 20000 in
/-- 177: StoneHome.tell(II)I -/
def at_X10_tell : List (Nat × am_I) := [(0, .aload_n 0, 1, 0, 0), (1, .getfield 23, 4, 10, 3), (4, .iload_n 1, 5, 1, 0), (5, .iload_n 2, 6, 2, 0), (6, .invokevirtual 138, 9, 94, 2), (9, .iconst (-1), 10, 0, 0), (10, .if_icmp .ne 5, 13, 15, 0), (13, .iconst (-1), 14, 0, 0),
  (14, .ireturn, 15, 0, 0), (15, .aload_n 0, 16, 0, 0), (16, .getfield 85, 19, 10, 12), (19, .iload_n 1, 20, 1, 0), (20, .iload_n 2, 21, 2, 0), (21, .invokestatic 142, 24, 130, 2), (24, .invokevirtual 244, 27, 71, 1), (27, .ireturn, 28, 0, 0)]
set_option maxRecDepth 20000 in
/-- 178: StoneHome.forget()I -/
def at_X10_forget : List (Nat × am_I) := [(0, .aload_n 0, 1, 0, 0), (1, .getfield 85, 4, 10, 12), (4, .invokevirtual 247, 7, 70, 0), (7, .ireturn, 8, 0, 0)]
set_option maxRecDepth 20000 in
/-- 179: StoneHome.fits(II)I -/
def at_X10_fits : List (Nat × am_I) := [(0, .aload_n 0, 1, 0, 0), (1, .getfield 85, 4, 10, 12), (4, .iload_n 1, 5, 1, 0), (5, .invokevirtual 250, 8, 72, 1), (8, .ifCond .eq 8, 11, 16, 0), (11, .iload_n 2, 12, 2, 0), (12, .iconst (-1), 13, 0, 0), (13, .if_icmp .ge 5, 16, 18, 0),
  (16, .iconst (-1), 17, 0, 0), (17, .ireturn, 18, 0, 0), (18, .aload_n 0, 19, 0, 0), (19, .getfield 85, 22, 10, 12), (22, .aload_n 0, 23, 0, 0), (23, .getfield 23, 26, 10, 3), (26, .iload_n 1, 27, 1, 0), (27, .invokevirtual 253, 30, 73, 2),
  (30, .iload_n 2, 31, 2, 0), (31, .iconst (-1), 32, 0, 0), (32, .if_icmp .ne 14, 35, 46, 0), (35, .aload_n 0, 36, 0, 0), (36, .getfield 85, 39, 10, 12), (39, .iload_n 1, 40, 1, 0), (40, .invokevirtual 257, 43, 76, 1), (43, .goto 12, 46, 55, 0),
  (46, .aload_n 0, 47, 0, 0), (47, .getfield 85, 50, 10, 12), (50, .iload_n 1, 51, 1, 0), (51, .iload_n 2, 52, 2, 0), (52, .invokevirtual 260, 55, 79, 2), (55, .ireturn, 56, 0, 0)]
set_option maxRecDepth 20000 in
/-- 180: StoneHome.often(II)I -/
def at_X10_often : List (Nat × am_I) := [(0, .aload_n 0, 1, 0, 0), (1, .getfield 85, 4, 10, 12), (4, .iload_n 1, 5, 1, 0), (5, .invokevirtual 250, 8, 72, 1), (8, .ifCond .eq 7, 11, 15, 0), (11, .iload_n 2, 12, 2, 0), (12, .ifCond .ge 5, 15, 17, 0), (15, .iconst (-1), 16, 0, 0),
  (16, .ireturn, 17, 0, 0), (17, .aload_n 0, 18, 0, 0), (18, .getfield 85, 21, 10, 12), (21, .aload_n 0, 22, 0, 0), (22, .getfield 23, 25, 10, 3), (25, .iload_n 1, 26, 1, 0), (26, .invokevirtual 253, 29, 73, 2), (29, .aload_n 0, 30, 0, 0),
  (30, .getfield 85, 33, 10, 12), (33, .iload_n 1, 34, 1, 0), (34, .iload_n 2, 35, 2, 0), (35, .invokevirtual 260, 38, 79, 2), (38, .istore_n 3, 39, 3, 0), (39, .iload_n 3, 40, 3, 0), (40, .iconst (-1), 41, 0, 0), (41, .if_icmp .ne 7, 44, 48, 0),
  (44, .iconst (-1), 45, 0, 0), (45, .goto 12, 48, 57, 0), (48, .aload_n 0, 49, 0, 0), (49, .getfield 85, 52, 10, 12), (52, .iload_n 1, 53, 1, 0), (53, .iload_n 3, 54, 3, 0), (54, .invokevirtual 263, 57, 77, 2), (57, .ireturn, 58, 0, 0)]
set_option maxRecDepth 20000 in
/-- 181: StoneHome.hold(I)Z -/
def at_X10_hold : List (Nat × am_I) := [(0, .iload_n 1, 1, 1, 0), (1, .ifCond .lt 8, 4, 9, 0), (4, .iload_n 1, 5, 1, 0), (5, .iconst 3, 6, 0, 0), (6, .if_icmp .lt 5, 9, 11, 0), (9, .iconst 0, 10, 0, 0), (10, .ireturn, 11, 0, 0), (11, .aload_n 0, 12, 0, 0),
  (12, .getfield 53, 15, 10, 8), (15, .iload_n 1, 16, 1, 0), (16, .aaload, 17, 4, 0), (17, .aload_n 0, 18, 0, 0), (18, .getfield 42, 21, 10, 6), (21, .invokevirtual 266, 24, 82, 1), (24, .aload_n 0, 25, 0, 0), (25, .getfield 53, 28, 10, 8),
  (28, .iload_n 1, 29, 1, 0), (29, .aaload, 30, 4, 0), (30, .iconst 1, 31, 0, 0), (31, .putfield 269, 34, 6, 57), (34, .iconst 1, 35, 0, 0), (35, .ireturn, 36, 0, 0)]
set_option maxRecDepth 20000 in
/-- 182: StoneHome.restore(I)Z -/
def at_X10_restore : List (Nat × am_I) := [(0, .iload_n 1, 1, 1, 0), (1, .ifCond .lt 20, 4, 21, 0), (4, .iload_n 1, 5, 1, 0), (5, .iconst 3, 6, 0, 0), (6, .if_icmp .ge 15, 9, 21, 0), (9, .aload_n 0, 10, 0, 0), (10, .getfield 53, 13, 10, 8), (13, .iload_n 1, 14, 1, 0),
  (14, .aaload, 15, 4, 0), (15, .getfield 269, 18, 6, 7), (18, .ifCond .ne 5, 21, 23, 0), (21, .iconst 0, 22, 0, 0), (22, .ireturn, 23, 0, 0), (23, .aload_n 0, 24, 0, 0), (24, .getfield 42, 27, 10, 6), (27, .aload_n 0, 28, 0, 0),
  (28, .getfield 53, 31, 10, 8), (31, .iload_n 1, 32, 1, 0), (32, .aaload, 33, 4, 0), (33, .invokevirtual 266, 36, 82, 1), (36, .aload_n 0, 37, 0, 0), (37, .getfield 49, 40, 10, 7), (40, .invokevirtual 273, 43, 29, 0), (43, .iconst 1, 44, 0, 0),
  (44, .ireturn, 45, 0, 0)]
set_option maxRecDepth 20000 in
/-- 183: StoneHome.count(I)I -/
def at_X10_count : List (Nat × am_I) := [(0, .iload_n 1, 1, 1, 0), (1, .tableswitch 141 0 10 #[59, 67, 75, 83, 91, 99, 107, 112, 120, 128, 133], 60, 142, 0), (60, .aload_n 0, 61, 0, 0), (61, .getfield 23, 64, 10, 3), (64, .getfield 275, 67, 7, 0), (67, .ireturn, 68, 0, 0), (68, .aload_n 0, 69, 0, 0), (69, .getfield 23, 72, 10, 3),
  (72, .getfield 223, 75, 7, 1), (75, .ireturn, 76, 0, 0), (76, .aload_n 0, 77, 0, 0), (77, .getfield 23, 80, 10, 3), (80, .getfield 220, 83, 7, 3), (83, .ireturn, 84, 0, 0), (84, .aload_n 0, 85, 0, 0), (85, .getfield 23, 88, 10, 3),
  (88, .getfield 241, 91, 7, 4), (91, .ireturn, 92, 0, 0), (92, .aload_n 0, 93, 0, 0), (93, .getfield 23, 96, 10, 3), (96, .getfield 129, 99, 7, 14), (99, .ireturn, 100, 0, 0), (100, .aload_n 0, 101, 0, 0), (101, .getfield 23, 104, 10, 3),
  (104, .invokevirtual 278, 107, 108, 0), (107, .ireturn, 108, 0, 0), (108, .aload_n 0, 109, 0, 0), (109, .getfield 13, 112, 10, 1), (112, .ireturn, 113, 0, 0), (113, .aload_n 0, 114, 0, 0), (114, .getfield 49, 117, 10, 7), (117, .getfield 281, 120, 2, 2),
  (120, .ireturn, 121, 0, 0), (121, .aload_n 0, 122, 0, 0), (122, .getfield 85, 125, 10, 12), (125, .getfield 284, 128, 5, 1), (128, .ireturn, 129, 0, 0), (129, .aload_n 0, 130, 0, 0), (130, .invokevirtual 287, 133, 184, 0), (133, .ireturn, 134, 0, 0),
  (134, .aload_n 0, 135, 0, 0), (135, .getfield 23, 138, 10, 3), (138, .invokevirtual 290, 141, 109, 0), (141, .ireturn, 142, 0, 0), (142, .iconst (-1), 143, 0, 0), (143, .ireturn, 144, 0, 0)]
set_option maxRecDepth 20000 in
/-- 184: StoneHome.heldSlots()I -/
def at_X10_heldSlots : List (Nat × am_I) := [(0, .iconst 0, 1, 0, 0), (1, .istore_n 1, 2, 1, 0), (2, .iconst 0, 3, 0, 0), (3, .istore_n 2, 4, 2, 0), (4, .iload_n 2, 5, 2, 0), (5, .aload_n 0, 6, 0, 0), (6, .getfield 53, 9, 10, 8), (9, .arraylength, 10, 0, 0),
  (10, .if_icmp .ge 24, 13, 34, 0), (13, .aload_n 0, 14, 0, 0), (14, .getfield 53, 17, 10, 8), (17, .iload_n 2, 18, 2, 0), (18, .aaload, 19, 4, 0), (19, .getfield 269, 22, 6, 7), (22, .ifCond .eq 6, 25, 28, 0), (25, .iinc 1 1, 28, 1, 0),
  (28, .iinc 2 1, 31, 2, 0), (31, .goto (-27), 34, 4, 0), (34, .iload_n 1, 35, 1, 0), (35, .ireturn, 36, 0, 0)]
set_option maxRecDepth 20000 in
/-- 185: StoneHomeModel.<init>()V -/
def at_X11_init : List (Nat × am_I) := [(0, .aload_n 0, 1, 0, 0), (1, .invokespecial 7, 4, 999, 0), (4, .aload_n 0, 5, 0, 0), (5, .sipush 2000, 8, 0, 0), (8, .newarray .byte, 10, 0, 0), (10, .putfield 13, 13, 11, 14), (13, .aload_n 0, 14, 0, 0), (14, .sipush 2000, 17, 0, 0),
  (17, .newarray .byte, 19, 0, 0), (19, .putfield 17, 22, 11, 30), (22, .aload_n 0, 23, 0, 0), (23, .sipush 403, 26, 0, 0), (26, .newarray .int, 28, 0, 0), (28, .putfield 20, 31, 11, 46), (31, .aload_n 0, 32, 0, 0), (32, .sipush 403, 35, 0, 0),
  (35, .newarray .int, 37, 0, 0), (37, .putfield 24, 40, 11, 54), (40, .aload_n 0, 41, 0, 0), (41, .sipush 403, 44, 0, 0), (44, .newarray .int, 46, 0, 0), (46, .putfield 27, 49, 11, 62), (49, .aload_n 0, 50, 0, 0), (50, .sipush 403, 53, 0, 0),
  (53, .newarray .long, 55, 0, 0), (55, .putfield 30, 58, 11, 70), (58, .aload_n 0, 59, 0, 0), (59, .bipush 23, 61, 0, 0), (61, .newarray .long, 63, 0, 0), (63, .putfield 34, 66, 11, 78), (66, .aload_n 0, 67, 0, 0), (67, .iconst (-1), 68, 0, 0),
  (68, .putfield 37, 71, 11, 136), (71, .aload_n 0, 72, 0, 0), (72, .iconst 4, 73, 0, 0), (73, .newarray .long, 75, 0, 0), (75, .putfield 40, 78, 11, 174), (78, .aload_n 0, 79, 0, 0), (79, .iconst 2, 80, 0, 0), (80, .newarray .int, 82, 0, 0),
  (82, .putfield 43, 85, 11, 182), (85, .aload_n 0, 86, 0, 0), (86, .iconst 2, 87, 0, 0), (87, .newarray .int, 89, 0, 0), (89, .putfield 46, 92, 11, 190), (92, .aload_n 0, 93, 0, 0), (93, .bipush 64, 95, 0, 0), (95, .newarray .int, 97, 0, 0),
  (97, .putfield 49, 100, 11, 198), (100, .aload_n 0, 101, 0, 0), (101, .iconst 2, 102, 0, 0), (102, .newarray .int, 104, 0, 0), (104, .putfield 52, 107, 11, 206), (107, .aload_n 0, 108, 0, 0), (108, .iconst 2, 109, 0, 0), (109, .newarray .int, 111, 0, 0),
  (111, .putfield 55, 114, 11, 214), (114, .aload_n 0, 115, 0, 0), (115, .bipush 8, 117, 0, 0), (117, .newarray .int, 119, 0, 0), (119, .putfield 58, 122, 11, 222), (122, .aload_n 0, 123, 0, 0), (123, .bipush 48, 125, 0, 0), (125, .newarray .int, 127, 0, 0),
  (127, .putfield 61, 130, 11, 230), (130, .aload_n 0, 131, 0, 0), (131, .bipush 48, 133, 0, 0), (133, .newarray .int, 135, 0, 0), (135, .putfield 64, 138, 11, 238), (138, .aload_n 0, 139, 0, 0), (139, .bipush 48, 141, 0, 0), (141, .newarray .int, 143, 0, 0),
  (143, .putfield 67, 146, 11, 246), (146, .aload_n 0, 147, 0, 0), (147, .bipush 48, 149, 0, 0), (149, .newarray .int, 151, 0, 0), (151, .putfield 70, 154, 11, 254), (154, .aload_n 0, 155, 0, 0), (155, .bipush 6, 157, 0, 0), (157, .newarray .int, 159, 0, 0),
  (159, .putfield 73, 162, 11, 262), (162, .aload_n 0, 163, 0, 0), (163, .bipush 6, 165, 0, 0), (165, .newarray .int, 167, 0, 0), (167, .putfield 76, 170, 11, 270), (170, .aload_n 0, 171, 0, 0), (171, .iconst 2, 172, 0, 0), (172, .newarray .int, 174, 0, 0),
  (174, .putfield 79, 177, 11, 278), (177, .aload_n 0, 178, 0, 0), (178, .iconst 2, 179, 0, 0), (179, .newarray .int, 181, 0, 0), (181, .putfield 82, 184, 11, 286), (184, .aload_n 0, 185, 0, 0), (185, .iconst 2, 186, 0, 0), (186, .newarray .int, 188, 0, 0),
  (188, .putfield 85, 191, 11, 294), (191, .aload_n 0, 192, 0, 0), (192, .bipush 6, 194, 0, 0), (194, .newarray .int, 196, 0, 0), (196, .putfield 88, 199, 11, 302), (199, .aload_n 0, 200, 0, 0), (200, .bipush 6, 202, 0, 0), (202, .newarray .int, 204, 0, 0),
  (204, .putfield 91, 207, 11, 310), (207, .aload_n 0, 208, 0, 0), (208, .sipush 260, 211, 0, 0), (211, .newarray .boolean, 213, 0, 0), (213, .putfield 94, 216, 11, 326), (216, .aload_n 0, 217, 0, 0), (217, .sipush 260, 220, 0, 0), (220, .newarray .int, 222, 0, 0),
  (222, .putfield 98, 225, 11, 334), (225, .aload_n 0, 226, 0, 0), (226, .sipush 260, 229, 0, 0), (229, .newarray .int, 231, 0, 0), (231, .putfield 101, 234, 11, 342), (234, .aload_n 0, 235, 0, 0), (235, .sipush 260, 238, 0, 0), (238, .newarray .int, 240, 0, 0),
  (240, .putfield 104, 243, 11, 350), (243, .aload_n 0, 244, 0, 0), (244, .sipush 260, 247, 0, 0), (247, .newarray .int, 249, 0, 0), (249, .putfield 107, 252, 11, 358), (252, .aload_n 0, 253, 0, 0), (253, .sipush 840, 256, 0, 0), (256, .newarray .int, 258, 0, 0),
  (258, .putfield 110, 261, 11, 374), (261, .aload_n 0, 262, 0, 0), (262, .sipush 840, 265, 0, 0), (265, .newarray .int, 267, 0, 0), (267, .putfield 113, 270, 11, 382), (270, .aload_n 0, 271, 0, 0), (271, .bipush 64, 273, 0, 0), (273, .newarray .int, 275, 0, 0),
  (275, .putfield 116, 278, 11, 390), (278, .aload_n 0, 279, 0, 0), (279, .bipush 7, 281, 0, 0), (281, .newarray .int, 283, 0, 0), (283, .putfield 119, 286, 11, 406), (286, .aload_n 0, 287, 0, 0), (287, .sipush 400, 290, 0, 0), (290, .newarray .int, 292, 0, 0),
  (292, .putfield 122, 295, 11, 414), (295, .aload_n 0, 296, 0, 0), (296, .bipush 10, 298, 0, 0), (298, .newarray .int, 300, 0, 0), (300, .putfield 125, 303, 11, 430), (303, .aload_n 0, 304, 0, 0), (304, .bipush 10, 306, 0, 0), (306, .newarray .int, 308, 0, 0),
  (308, .putfield 128, 311, 11, 438), (311, .aload_n 0, 312, 0, 0), (312, .sipush 385, 315, 0, 0), (315, .newarray .int, 317, 0, 0), (317, .putfield 131, 320, 11, 454), (320, .aload_n 0, 321, 0, 0), (321, .sipush 385, 324, 0, 0), (324, .newarray .int, 326, 0, 0),
  (326, .putfield 134, 329, 11, 462), (329, .aload_n 0, 330, 0, 0), (330, .sipush 500, 333, 0, 0), (333, .newarray .int, 335, 0, 0), (335, .putfield 137, 338, 11, 478), (338, .aload_n 0, 339, 0, 0), (339, .sipush 9409, 342, 0, 0), (342, .newarray .int, 344, 0, 0),
  (344, .putfield 140, 347, 11, 486), (347, .aload_n 0, 348, 0, 0), (348, .sipush 9409, 351, 0, 0), (351, .newarray .int, 353, 0, 0), (353, .putfield 143, 356, 11, 494), (356, .aload_n 0, 357, 0, 0), (357, .sipush 2880, 360, 0, 0), (360, .newarray .int, 362, 0, 0),
  (362, .putfield 146, 365, 11, 502), (365, .aload_n 0, 366, 0, 0), (366, .iconst 5, 367, 0, 0), (367, .newarray .int, 369, 0, 0), (369, .putfield 149, 372, 11, 518), (372, .aload_n 0, 373, 0, 0), (373, .iconst 5, 374, 0, 0), (374, .newarray .int, 376, 0, 0),
  (376, .putfield 152, 379, 11, 526), (379, .aload_n 0, 380, 0, 0), (380, .iconst 3, 381, 0, 0), (381, .newarray .int, 383, 0, 0), (383, .putfield 155, 386, 11, 534), (386, .aload_n 0, 387, 0, 0), (387, .iconst 3, 388, 0, 0), (388, .newarray .int, 390, 0, 0),
  (390, .putfield 158, 393, 11, 542), (393, .aload_n 0, 394, 0, 0), (394, .iconst 3, 395, 0, 0), (395, .newarray .boolean, 397, 0, 0), (397, .putfield 161, 400, 11, 550), (400, .aload_n 0, 401, 0, 0), (401, .bipush 30, 403, 0, 0), (403, .newarray .int, 405, 0, 0),
  (405, .putfield 164, 408, 11, 558), (408, .aload_n 0, 409, 0, 0), (409, .iconst 0, 410, 0, 0), (410, .invokevirtual 167, 413, 186, 1), (413, .aload_n 0, 414, 0, 0), (414, .getfield 34, 417, 11, 9), (417, .iconst 0, 418, 0, 0), (418, .bipush 114, 420, 0, 0),
  (420, .bipush 111, 422, 0, 0), (422, .bipush 119, 424, 0, 0), (424, .iconst 0, 425, 0, 0), (425, .iconst 0, 426, 0, 0), (426, .iconst 0, 427, 0, 0), (427, .iconst 0, 428, 0, 0), (428, .invokestatic 171, 431, 187, 7), (431, .lastore, 432, 0, 0),
  (432, .aload_n 0, 433, 0, 0), (433, .getfield 34, 436, 11, 9), (436, .iconst 1, 437, 0, 0), (437, .bipush 102, 439, 0, 0), (439, .bipush 97, 441, 0, 0), (441, .bipush 99, 443, 0, 0), (443, .bipush 101, 445, 0, 0), (445, .bipush 115, 447, 0, 0),
  (447, .iconst 0, 448, 0, 0), (448, .iconst 0, 449, 0, 0), (449, .invokestatic 171, 452, 187, 7), (452, .lastore, 453, 0, 0), (453, .aload_n 0, 454, 0, 0), (454, .getfield 34, 457, 11, 9), (457, .iconst 2, 458, 0, 0), (458, .bipush 107, 460, 0, 0),
  (460, .bipush 105, 462, 0, 0), (462, .bipush 99, 464, 0, 0), (464, .bipush 107, 466, 0, 0), (466, .iconst 0, 467, 0, 0), (467, .iconst 0, 468, 0, 0), (468, .iconst 0, 469, 0, 0), (469, .invokestatic 171, 472, 187, 7), (472, .lastore, 473, 0, 0),
  (473, .aload_n 0, 474, 0, 0), (474, .getfield 34, 477, 11, 9), (477, .iconst 3, 478, 0, 0), (478, .bipush 98, 480, 0, 0), (480, .bipush 121, 482, 0, 0), (482, .iconst 0, 483, 0, 0), (483, .iconst 0, 484, 0, 0), (484, .iconst 0, 485, 0, 0),
  (485, .iconst 0, 486, 0, 0), (486, .iconst 0, 487, 0, 0), (487, .invokestatic 171, 490, 187, 7), (490, .lastore, 491, 0, 0), (491, .aload_n 0, 492, 0, 0), (492, .getfield 34, 495, 11, 9), (495, .iconst 4, 496, 0, 0), (496, .bipush 116, 498, 0, 0),
  (498, .bipush 117, 500, 0, 0), (500, .bipush 114, 502, 0, 0), (502, .bipush 110, 504, 0, 0), (504, .iconst 0, 505, 0, 0), (505, .iconst 0, 506, 0, 0), (506, .iconst 0, 507, 0, 0), (507, .invokestatic 171, 510, 187, 7), (510, .lastore, 511, 0, 0),
  (511, .aload_n 0, 512, 0, 0), (512, .getfield 34, 515, 11, 9), (515, .iconst 5, 516, 0, 0), (516, .bipush 100, 518, 0, 0), (518, .bipush 114, 520, 0, 0), (520, .bipush 105, 522, 0, 0), (522, .bipush 102, 524, 0, 0), (524, .bipush 116, 526, 0, 0),
  (526, .iconst 0, 527, 0, 0), (527, .iconst 0, 528, 0, 0), (528, .invokestatic 171, 531, 187, 7), (531, .lastore, 532, 0, 0), (532, .aload_n 0, 533, 0, 0), (533, .getfield 34, 536, 11, 9), (536, .bipush 6, 538, 0, 0), (538, .bipush 114, 540, 0, 0),
  (540, .bipush 117, 542, 0, 0), (542, .bipush 110, 544, 0, 0), (544, .bipush 115, 546, 0, 0), (546, .iconst 0, 547, 0, 0), (547, .iconst 0, 548, 0, 0), (548, .iconst 0, 549, 0, 0), (549, .invokestatic 171, 552, 187, 7), (552, .lastore, 553, 0, 0),
  (553, .aload_n 0, 554, 0, 0), (554, .getfield 34, 557, 11, 9), (557, .bipush 7, 559, 0, 0), (559, .bipush 99, 561, 0, 0), (561, .bipush 97, 563, 0, 0), (563, .bipush 114, 565, 0, 0), (565, .bipush 115, 567, 0, 0), (567, .iconst 0, 568, 0, 0),
  (568, .iconst 0, 569, 0, 0), (569, .iconst 0, 570, 0, 0), (570, .invokestatic 171, 573, 187, 7), (573, .lastore, 574, 0, 0), (574, .aload_n 0, 575, 0, 0), (575, .getfield 34, 578, 11, 9), (578, .bipush 8, 580, 0, 0), (580, .bipush 115, 582, 0, 0),
  (582, .bipush 116, 584, 0, 0), (584, .bipush 111, 586, 0, 0), (586, .bipush 110, 588, 0, 0), (588, .bipush 101, 590, 0, 0), (590, .iconst 0, 591, 0, 0), (591, .iconst 0, 592, 0, 0), (592, .invokestatic 171, 595, 187, 7), (595, .lastore, 596, 0, 0),
  (596, .aload_n 0, 597, 0, 0), (597, .getfield 34, 600, 11, 9), (600, .bipush 9, 602, 0, 0), (602, .bipush 102, 604, 0, 0), (604, .bipush 114, 606, 0, 0), (606, .bipush 105, 608, 0, 0), (608, .bipush 101, 610, 0, 0), (610, .bipush 110, 612, 0, 0),
  (612, .bipush 100, 614, 0, 0), (614, .iconst 0, 615, 0, 0), (615, .invokestatic 171, 618, 187, 7), (618, .lastore, 619, 0, 0), (619, .aload_n 0, 620, 0, 0), (620, .getfield 34, 623, 11, 9), (623, .bipush 10, 625, 0, 0), (625, .bipush 108, 627, 0, 0),
  (627, .bipush 105, 629, 0, 0), (629, .bipush 118, 631, 0, 0), (631, .bipush 101, 633, 0, 0), (633, .bipush 115, 635, 0, 0), (635, .iconst 0, 636, 0, 0), (636, .iconst 0, 637, 0, 0), (637, .invokestatic 171, 640, 187, 7), (640, .lastore, 641, 0, 0),
  (641, .aload_n 0, 642, 0, 0), (642, .getfield 34, 645, 11, 9), (645, .bipush 11, 647, 0, 0), (647, .bipush 116, 649, 0, 0), (649, .bipush 97, 651, 0, 0), (651, .bipush 107, 653, 0, 0), (653, .bipush 101, 655, 0, 0), (655, .bipush 115, 657, 0, 0),
  (657, .iconst 0, 658, 0, 0), (658, .iconst 0, 659, 0, 0), (659, .invokestatic 171, 662, 187, 7), (662, .lastore, 663, 0, 0), (663, .aload_n 0, 664, 0, 0), (664, .getfield 34, 667, 11, 9), (667, .bipush 12, 669, 0, 0), (669, .bipush 115, 671, 0, 0),
  (671, .bipush 101, 673, 0, 0), (673, .bipush 101, 675, 0, 0), (675, .bipush 100, 677, 0, 0), (677, .iconst 0, 678, 0, 0), (678, .iconst 0, 679, 0, 0), (679, .iconst 0, 680, 0, 0), (680, .invokestatic 171, 683, 187, 7), (683, .lastore, 684, 0, 0),
  (684, .aload_n 0, 685, 0, 0), (685, .getfield 34, 688, 11, 9), (688, .bipush 13, 690, 0, 0), (690, .bipush 105, 692, 0, 0), (692, .bipush 102, 694, 0, 0), (694, .iconst 0, 695, 0, 0), (695, .iconst 0, 696, 0, 0), (696, .iconst 0, 697, 0, 0),
  (697, .iconst 0, 698, 0, 0), (698, .iconst 0, 699, 0, 0), (699, .invokestatic 171, 702, 187, 7), (702, .lastore, 703, 0, 0), (703, .aload_n 0, 704, 0, 0), (704, .getfield 34, 707, 11, 9), (707, .bipush 14, 709, 0, 0), (709, .bipush 116, 711, 0, 0),
  (711, .bipush 104, 713, 0, 0), (713, .bipush 101, 715, 0, 0), (715, .bipush 110, 717, 0, 0), (717, .iconst 0, 718, 0, 0), (718, .iconst 0, 719, 0, 0), (719, .iconst 0, 720, 0, 0), (720, .invokestatic 171, 723, 187, 7), (723, .lastore, 724, 0, 0),
  (724, .aload_n 0, 725, 0, 0), (725, .getfield 34, 728, 11, 9), (728, .bipush 15, 730, 0, 0), (730, .bipush 101, 732, 0, 0), (732, .bipush 108, 734, 0, 0), (734, .bipush 115, 736, 0, 0), (736, .bipush 101, 738, 0, 0), (738, .iconst 0, 739, 0, 0),
  (739, .iconst 0, 740, 0, 0), (740, .iconst 0, 741, 0, 0), (741, .invokestatic 171, 744, 187, 7), (744, .lastore, 745, 0, 0), (745, .aload_n 0, 746, 0, 0), (746, .getfield 34, 749, 11, 9), (749, .bipush 16, 751, 0, 0), (751, .bipush 97, 753, 0, 0),
  (753, .bipush 108, 755, 0, 0), (755, .bipush 111, 757, 0, 0), (757, .bipush 110, 759, 0, 0), (759, .bipush 103, 761, 0, 0), (761, .iconst 0, 762, 0, 0), (762, .iconst 0, 763, 0, 0), (763, .invokestatic 171, 766, 187, 7), (766, .lastore, 767, 0, 0),
  (767, .aload_n 0, 768, 0, 0), (768, .getfield 34, 771, 11, 9), (771, .bipush 17, 773, 0, 0), (773, .bipush 97, 775, 0, 0), (775, .bipush 99, 777, 0, 0), (777, .bipush 114, 779, 0, 0), (779, .bipush 111, 781, 0, 0), (781, .bipush 115, 783, 0, 0),
  (783, .bipush 115, 785, 0, 0), (785, .iconst 0, 786, 0, 0), (786, .invokestatic 171, 789, 187, 7), (789, .lastore, 790, 0, 0), (790, .aload_n 0, 791, 0, 0), (791, .getfield 34, 794, 11, 9), (794, .bipush 18, 796, 0, 0), (796, .bipush 102, 798, 0, 0),
  (798, .bipush 97, 800, 0, 0), (800, .bipush 99, 802, 0, 0), (802, .bipush 101, 804, 0, 0), (804, .iconst 0, 805, 0, 0), (805, .iconst 0, 806, 0, 0), (806, .iconst 0, 807, 0, 0), (807, .invokestatic 171, 810, 187, 7), (810, .lastore, 811, 0, 0),
  (811, .aload_n 0, 812, 0, 0), (812, .getfield 34, 815, 11, 9), (815, .bipush 19, 817, 0, 0), (817, .bipush 115, 819, 0, 0), (819, .bipush 111, 821, 0, 0), (821, .bipush 114, 823, 0, 0), (823, .bipush 116, 825, 0, 0), (825, .iconst 0, 826, 0, 0),
  (826, .iconst 0, 827, 0, 0), (827, .iconst 0, 828, 0, 0), (828, .invokestatic 171, 831, 187, 7), (831, .lastore, 832, 0, 0), (832, .aload_n 0, 833, 0, 0), (833, .getfield 34, 836, 11, 9), (836, .bipush 20, 838, 0, 0), (838, .bipush 119, 840, 0, 0),
  (840, .bipush 104, 842, 0, 0), (842, .bipush 105, 844, 0, 0), (844, .bipush 99, 846, 0, 0), (846, .bipush 104, 848, 0, 0), (848, .iconst 0, 849, 0, 0), (849, .iconst 0, 850, 0, 0), (850, .invokestatic 171, 853, 187, 7), (853, .lastore, 854, 0, 0),
  (854, .aload_n 0, 855, 0, 0), (855, .getfield 34, 858, 11, 9), (858, .bipush 21, 860, 0, 0), (860, .bipush 104, 862, 0, 0), (862, .bipush 97, 864, 0, 0), (864, .bipush 114, 866, 0, 0), (866, .bipush 100, 868, 0, 0), (868, .iconst 0, 869, 0, 0),
  (869, .iconst 0, 870, 0, 0), (870, .iconst 0, 871, 0, 0), (871, .invokestatic 171, 874, 187, 7), (874, .lastore, 875, 0, 0), (875, .aload_n 0, 876, 0, 0), (876, .getfield 34, 879, 11, 9), (879, .bipush 22, 881, 0, 0), (881, .bipush 115, 883, 0, 0),
  (883, .bipush 101, 885, 0, 0), (885, .bipush 99, 887, 0, 0), (887, .bipush 111, 889, 0, 0), (889, .bipush 110, 891, 0, 0), (891, .bipush 100, 893, 0, 0), (893, .iconst 0, 894, 0, 0), (894, .invokestatic 171, 897, 187, 7), (897, .lastore, 898, 0, 0),
  (898, .aload_n 0, 899, 0, 0), (899, .getfield 43, 902, 11, 22), (902, .iconst 0, 903, 0, 0), (903, .iconst 1, 904, 0, 0), (904, .iastore, 905, 0, 0), (905, .aload_n 0, 906, 0, 0), (906, .getfield 46, 909, 11, 23), (909, .iconst 0, 910, 0, 0),
  (910, .iconst 2, 911, 0, 0), (911, .iastore, 912, 0, 0), (912, .aload_n 0, 913, 0, 0), (913, .getfield 49, 916, 11, 24), (916, .iconst 1, 917, 0, 0), (917, .bipush 6, 919, 0, 0), (919, .iastore, 920, 0, 0), (920, .aload_n 0, 921, 0, 0),
  (921, .getfield 55, 924, 11, 26), (924, .iconst 0, 925, 0, 0), (925, .iconst 1, 926, 0, 0), (926, .iastore, 927, 0, 0), (927, .aload_n 0, 928, 0, 0), (928, .getfield 58, 931, 11, 27), (931, .iconst 0, 932, 0, 0), (932, .iconst 1, 933, 0, 0),
  (933, .iastore, 934, 0, 0), (934, .aload_n 0, 935, 0, 0), (935, .getfield 61, 938, 11, 28), (938, .iconst 0, 939, 0, 0), (939, .bipush 6, 941, 0, 0), (941, .iastore, 942, 0, 0), (942, .aload_n 0, 943, 0, 0), (943, .getfield 64, 946, 11, 29),
  (946, .iconst 0, 947, 0, 0), (947, .iconst 1, 948, 0, 0), (948, .iastore, 949, 0, 0), (949, .aload_n 0, 950, 0, 0), (950, .invokevirtual 175, 953, 189, 0), (953, .aload_n 0, 954, 0, 0), (954, .invokevirtual 178, 957, 190, 0), (957, .return_, 958, 0, 0)]
set_option maxRecDepth 20000 in
/-- 186: StoneHomeModel.plain(I)V -/
def at_X11_plain : List (Nat × am_I) := [(0, .aload_n 0, 1, 0, 0), (1, .getfield 43, 4, 11, 22), (4, .iload_n 1, 5, 1, 0), (5, .iconst 0, 6, 0, 0), (6, .iastore, 7, 0, 0), (7, .aload_n 0, 8, 0, 0), (8, .getfield 46, 11, 11, 23), (11, .iload_n 1, 12, 1, 0),
  (12, .iconst 0, 13, 0, 0), (13, .iastore, 14, 0, 0), (14, .aload_n 0, 15, 0, 0), (15, .getfield 52, 18, 11, 25), (18, .iload_n 1, 19, 1, 0), (19, .iconst 1, 20, 0, 0), (20, .iastore, 21, 0, 0), (21, .aload_n 0, 22, 0, 0),
  (22, .getfield 55, 25, 11, 26), (25, .iload_n 1, 26, 1, 0), (26, .iconst 0, 27, 0, 0), (27, .iastore, 28, 0, 0), (28, .aload_n 0, 29, 0, 0), (29, .getfield 79, 32, 11, 34), (32, .iload_n 1, 33, 1, 0), (33, .iconst 0, 34, 0, 0),
  (34, .iastore, 35, 0, 0), (35, .aload_n 0, 36, 0, 0), (36, .getfield 82, 39, 11, 35), (39, .iload_n 1, 40, 1, 0), (40, .iconst 5, 41, 0, 0), (41, .iastore, 42, 0, 0), (42, .aload_n 0, 43, 0, 0), (43, .getfield 85, 46, 11, 36),
  (46, .iload_n 1, 47, 1, 0), (47, .iconst 0, 48, 0, 0), (48, .iastore, 49, 0, 0), (49, .iconst 0, 50, 0, 0), (50, .istore_n 2, 51, 2, 0), (51, .iload_n 2, 52, 2, 0), (52, .iconst 3, 53, 0, 0), (53, .if_icmp .ge 53, 56, 106, 0),
  (56, .aload_n 0, 57, 0, 0), (57, .getfield 73, 60, 11, 32), (60, .iconst 3, 61, 0, 0), (61, .iload_n 1, 62, 1, 0), (62, .imul, 63, 0, 0), (63, .iload_n 2, 64, 2, 0), (64, .iadd, 65, 0, 0), (65, .iconst 0, 66, 0, 0),
  (66, .iastore, 67, 0, 0), (67, .aload_n 0, 68, 0, 0), (68, .getfield 76, 71, 11, 33), (71, .iconst 3, 72, 0, 0), (72, .iload_n 1, 73, 1, 0), (73, .imul, 74, 0, 0), (74, .iload_n 2, 75, 2, 0), (75, .iadd, 76, 0, 0),
  (76, .iconst 0, 77, 0, 0), (77, .iastore, 78, 0, 0), (78, .aload_n 0, 79, 0, 0), (79, .getfield 88, 82, 11, 37), (82, .iconst 3, 83, 0, 0), (83, .iload_n 1, 84, 1, 0), (84, .imul, 85, 0, 0), (85, .iload_n 2, 86, 2, 0),
  (86, .iadd, 87, 0, 0), (87, .iconst 0, 88, 0, 0), (88, .iastore, 89, 0, 0), (89, .aload_n 0, 90, 0, 0), (90, .getfield 91, 93, 11, 38), (93, .iconst 3, 94, 0, 0), (94, .iload_n 1, 95, 1, 0), (95, .imul, 96, 0, 0),
  (96, .iload_n 2, 97, 2, 0), (97, .iadd, 98, 0, 0), (98, .iconst 0, 99, 0, 0), (99, .iastore, 100, 0, 0), (100, .iinc 2 1, 103, 2, 0), (103, .goto (-52), 106, 51, 0), (106, .return_, 107, 0, 0)]
set_option maxRecDepth 20000 in
/-- 187: StoneHomeModel.word(IIIIIII)J -/
def at_X11_word : List (Nat × am_I) := [(0, .lconst 0, 1, 0, 0), (1, .iload_n 0, 2, 0, 0), (2, .invokestatic 192, 5, 188, 2), (5, .iload_n 1, 6, 1, 0), (6, .invokestatic 192, 9, 188, 2), (9, .iload_n 2, 10, 2, 0), (10, .invokestatic 192, 13, 188, 2), (13, .iload_n 3, 14, 3, 0),
  (14, .invokestatic 192, 17, 188, 2), (17, .iload 4, 19, 4, 0), (19, .invokestatic 192, 22, 188, 2), (22, .iload 5, 24, 5, 0), (24, .invokestatic 192, 27, 188, 2), (27, .iload 6, 29, 6, 0), (29, .invokestatic 192, 32, 188, 2), (32, .lreturn, 33, 0, 0)]
set_option maxRecDepth 20000 in
/-- 188: StoneHomeModel.appends(JI)J -/
def at_X11_appends : List (Nat × am_I) := [(0, .iload_n 2, 1, 2, 0), (1, .ifCond .ne 7, 4, 8, 0), (4, .lload_n 0, 5, 0, 0), (5, .goto 16, 8, 21, 0), (8, .ldc2_w 190, 11, 0, 27), (11, .lload_n 0, 12, 0, 0), (12, .lmul, 13, 0, 0), (13, .iload_n 2, 14, 2, 0),
  (14, .bipush 97, 16, 0, 0), (16, .isub, 17, 0, 0), (17, .iconst 1, 18, 0, 0), (18, .iadd, 19, 0, 0), (19, .i2l, 20, 0, 0), (20, .ladd, 21, 0, 0), (21, .lreturn, 22, 0, 0)]
set_option maxRecDepth 20000 in
/-- 189: StoneHomeModel.begins()V -/
def at_X11_begins : List (Nat × am_I) := [(0, .iconst 0, 1, 0, 0), (1, .istore_n 1, 2, 1, 0), (2, .iload_n 1, 3, 1, 0), (3, .bipush 10, 5, 0, 0), (5, .if_icmp .ge 16, 8, 21, 0), (8, .aload_n 0, 9, 0, 0), (9, .getfield 128, 12, 11, 54), (12, .iload_n 1, 13, 1, 0),
  (13, .iconst 0, 14, 0, 0), (14, .iastore, 15, 0, 0), (15, .iinc 1 1, 18, 1, 0), (18, .goto (-16), 21, 2, 0), (21, .iconst 0, 22, 0, 0), (22, .istore_n 1, 23, 1, 0), (23, .iload_n 1, 24, 1, 0), (24, .iconst 3, 25, 0, 0),
  (25, .if_icmp .ge 28, 28, 53, 0), (28, .aload_n 0, 29, 0, 0), (29, .getfield 128, 32, 11, 54), (32, .iload_n 1, 33, 1, 0), (33, .aload_n 0, 34, 0, 0), (34, .getfield 73, 37, 11, 32), (37, .iconst 3, 38, 0, 0), (38, .aload_n 0, 39, 0, 0),
  (39, .getfield 248, 42, 11, 18), (42, .imul, 43, 0, 0), (43, .iload_n 1, 44, 1, 0), (44, .iadd, 45, 0, 0), (45, .iaload, 46, 0, 0), (46, .iastore, 47, 0, 0), (47, .iinc 1 1, 50, 1, 0), (50, .goto (-27), 53, 23, 0),
  (53, .aload_n 0, 54, 0, 0), (54, .getfield 128, 57, 11, 54), (57, .iconst 3, 58, 0, 0), (58, .aload_n 0, 59, 0, 0), (59, .getfield 79, 62, 11, 34), (62, .aload_n 0, 63, 0, 0), (63, .getfield 248, 66, 11, 18), (66, .iaload, 67, 0, 0),
  (67, .iastore, 68, 0, 0), (68, .return_, 69, 0, 0)]
set_option maxRecDepth 20000 in
/-- 190: StoneHomeModel.keepsRow()V -/
def at_X11_keepsRow : List (Nat × am_I) := [(0, .iconst 0, 1, 0, 0), (1, .istore_n 1, 2, 1, 0), (2, .iload_n 1, 3, 1, 0), (3, .bipush 10, 5, 0, 0), (5, .if_icmp .ge 21, 8, 26, 0), (8, .aload_n 0, 9, 0, 0), (9, .getfield 125, 12, 11, 53), (12, .iload_n 1, 13, 1, 0),
  (13, .aload_n 0, 14, 0, 0), (14, .getfield 128, 17, 11, 54), (17, .iload_n 1, 18, 1, 0), (18, .iaload, 19, 0, 0), (19, .iastore, 20, 0, 0), (20, .iinc 1 1, 23, 1, 0), (23, .goto (-21), 26, 2, 0), (26, .return_, 27, 0, 0)]
set_option maxRecDepth 20000 in
/-- 191: StoneHomeModel.feed(IIIII)I -/
def at_X11_feed : List (Nat × am_I) := [(0, .aload_n 0, 1, 0, 0), (1, .getfield 181, 4, 11, 2), (4, .bipush 20, 6, 0, 0), (6, .iadd, 7, 0, 0), (7, .sipush 2000, 10, 0, 0), (10, .if_icmp .le 5, 13, 15, 0), (13, .iconst (-1), 14, 0, 0), (14, .ireturn, 15, 0, 0),
  (15, .aload_n 0, 16, 0, 0), (16, .iload_n 1, 17, 1, 0), (17, .invokevirtual 184, 20, 192, 1), (20, .aload_n 0, 21, 0, 0), (21, .iload_n 2, 22, 2, 0), (22, .invokevirtual 184, 25, 192, 1), (25, .aload_n 0, 26, 0, 0), (26, .iload_n 3, 27, 3, 0),
  (27, .invokevirtual 184, 30, 192, 1), (30, .aload_n 0, 31, 0, 0), (31, .iload 4, 33, 4, 0), (33, .invokevirtual 184, 36, 192, 1), (36, .aload_n 0, 37, 0, 0), (37, .iload 5, 39, 5, 0), (39, .invokevirtual 184, 42, 192, 1), (42, .aload_n 0, 43, 0, 0),
  (43, .getfield 181, 46, 11, 2), (46, .ireturn, 47, 0, 0)]
set_option maxRecDepth 20000 in
/-- 192: StoneHomeModel.put(I)V -/
def at_X11_put : List (Nat × am_I) := [(0, .bipush 24, 2, 0, 0), (2, .istore_n 2, 3, 2, 0), (3, .iload_n 2, 4, 2, 0), (4, .ifCond .lt 32, 7, 36, 0), (7, .aload_n 0, 8, 0, 0), (8, .getfield 13, 11, 11, 1), (11, .aload_n 0, 12, 0, 0), (12, .getfield 181, 15, 11, 2),
  (15, .iload_n 1, 16, 1, 0), (16, .iload_n 2, 17, 2, 0), (17, .ishr, 18, 0, 0), (18, .i2b, 19, 0, 0), (19, .bastore, 20, 1, 0), (20, .aload_n 0, 21, 0, 0), (21, .dup, 22, 0, 0), (22, .getfield 181, 25, 11, 2),
  (25, .iconst 1, 26, 0, 0), (26, .iadd, 27, 0, 0), (27, .putfield 181, 30, 11, 16), (30, .iinc 2 (-8), 33, 2, 0), (33, .goto (-30), 36, 3, 0), (36, .return_, 37, 0, 0)]
set_option maxRecDepth 20000 in
/-- 193: StoneHomeModel.back(I)I -/
def at_X11_back : List (Nat × am_I) := [(0, .iload_n 1, 1, 1, 0), (1, .ifCond .lt 11, 4, 12, 0), (4, .iload_n 1, 5, 1, 0), (5, .aload_n 0, 6, 0, 0), (6, .getfield 181, 9, 11, 2), (9, .if_icmp .le 5, 12, 14, 0), (12, .iconst (-1), 13, 0, 0), (13, .ireturn, 14, 0, 0),
  (14, .aload_n 0, 15, 0, 0), (15, .dup, 16, 0, 0), (16, .getfield 181, 19, 11, 2), (19, .iload_n 1, 20, 1, 0), (20, .isub, 21, 0, 0), (21, .putfield 181, 24, 11, 16), (24, .aload_n 0, 25, 0, 0), (25, .getfield 181, 28, 11, 2),
  (28, .ireturn, 29, 0, 0)]
set_option maxRecDepth 20000 in
/-- 194: StoneHomeModel.read()I -/
def at_X11_read : List (Nat × am_I) := [(0, .aload_n 0, 1, 0, 0), (1, .aload_n 0, 2, 0, 0), (2, .getfield 181, 5, 11, 2), (5, .putfield 187, 8, 11, 32), (8, .iconst 0, 9, 0, 0), (9, .istore_n 1, 10, 1, 0), (10, .iload_n 1, 11, 1, 0), (11, .aload_n 0, 12, 0, 0),
  (12, .getfield 187, 15, 11, 4), (15, .if_icmp .ge 21, 18, 36, 0), (18, .aload_n 0, 19, 0, 0), (19, .getfield 17, 22, 11, 3), (22, .iload_n 1, 23, 1, 0), (23, .aload_n 0, 24, 0, 0), (24, .getfield 13, 27, 11, 1), (27, .iload_n 1, 28, 1, 0),
  (28, .baload, 29, 1, 0), (29, .bastore, 30, 1, 0), (30, .iinc 1 1, 33, 1, 0), (33, .goto (-23), 36, 10, 0), (36, .aload_n 0, 37, 0, 0), (37, .iconst 0, 38, 0, 0), (38, .putfield 181, 41, 11, 16), (41, .aload_n 0, 42, 0, 0),
  (42, .invokevirtual 242, 45, 195, 0), (45, .aload_n 0, 46, 0, 0), (46, .iconst 0, 47, 0, 0), (47, .putfield 221, 50, 11, 88), (50, .aload_n 0, 51, 0, 0), (51, .iconst 0, 52, 0, 0), (52, .putfield 245, 55, 11, 96), (55, .aload_n 0, 56, 0, 0),
  (56, .iconst 0, 57, 0, 0), (57, .putfield 218, 60, 11, 104), (60, .aload_n 0, 61, 0, 0), (61, .iconst 0, 62, 0, 0), (62, .putfield 227, 65, 11, 120), (65, .aload_n 0, 66, 0, 0), (66, .iconst 1, 67, 0, 0), (67, .aload_n 0, 68, 0, 0),
  (68, .getfield 248, 71, 11, 18), (71, .isub, 72, 0, 0), (72, .putfield 251, 75, 11, 152), (75, .aload_n 0, 76, 0, 0), (76, .iconst 0, 77, 0, 0), (77, .putfield 254, 80, 11, 160), (80, .aload_n 0, 81, 0, 0), (81, .aload_n 0, 82, 0, 0),
  (82, .getfield 251, 85, 11, 19), (85, .invokevirtual 167, 88, 186, 1), (88, .aload_n 0, 89, 0, 0), (89, .sipush 130, 92, 0, 0), (92, .aload_n 0, 93, 0, 0), (93, .getfield 251, 96, 11, 19), (96, .imul, 97, 0, 0), (97, .putfield 257, 100, 11, 312),
  (100, .aload_n 0, 101, 0, 0), (101, .sipush 420, 104, 0, 0), (104, .aload_n 0, 105, 0, 0), (105, .getfield 251, 108, 11, 19), (108, .imul, 109, 0, 0), (109, .putfield 260, 112, 11, 360), (112, .aload_n 0, 113, 0, 0), (113, .getfield 218, 116, 11, 13),
  (116, .ifCond .ne 18, 119, 134, 0), (119, .aload_n 0, 120, 0, 0), (120, .iconst 0, 121, 0, 0), (121, .invokevirtual 236, 124, 201, 1), (124, .ifCond .ne 10, 127, 134, 0), (127, .aload_n 0, 128, 0, 0), (128, .invokevirtual 263, 131, 202, 0), (131, .goto (-19), 134, 112, 0),
  (134, .aload_n 0, 135, 0, 0), (135, .getfield 218, 138, 11, 13), (138, .ifCond .ne 62, 141, 200, 0), (141, .aload_n 0, 142, 0, 0), (142, .getfield 227, 145, 11, 15), (145, .ifCond .ne 55, 148, 200, 0), (148, .aload_n 0, 149, 0, 0), (149, .getfield 43, 152, 11, 22),
  (152, .aload_n 0, 153, 0, 0), (153, .getfield 251, 156, 11, 19), (156, .iaload, 157, 0, 0), (157, .ifCond .eq 37, 160, 194, 0), (160, .aload_n 0, 161, 0, 0), (161, .getfield 55, 164, 11, 26), (164, .aload_n 0, 165, 0, 0), (165, .getfield 251, 168, 11, 19),
  (168, .iaload, 169, 0, 0), (169, .ifCond .eq 25, 172, 194, 0), (172, .aload_n 0, 173, 0, 0), (173, .aload_n 0, 174, 0, 0), (174, .getfield 73, 177, 11, 32), (177, .invokevirtual 266, 180, 218, 1), (180, .ifCond .eq 14, 183, 194, 0), (183, .aload_n 0, 184, 0, 0),
  (184, .aload_n 0, 185, 0, 0), (185, .getfield 76, 188, 11, 33), (188, .invokevirtual 266, 191, 218, 1), (191, .ifCond .ne 9, 194, 200, 0), (194, .aload_n 0, 195, 0, 0), (195, .bipush 7, 197, 0, 0), (197, .invokevirtual 233, 200, 203, 1), (200, .aload_n 0, 201, 0, 0),
  (201, .aload_n 0, 202, 0, 0), (202, .getfield 218, 205, 11, 13), (205, .ifCond .le 10, 208, 215, 0), (208, .aload_n 0, 209, 0, 0), (209, .getfield 224, 212, 11, 14), (212, .goto 18, 215, 230, 0), (215, .aload_n 0, 216, 0, 0), (216, .getfield 227, 219, 11, 15),
  (219, .ifCond .le 10, 222, 229, 0), (222, .aload_n 0, 223, 0, 0), (223, .getfield 230, 226, 11, 16), (226, .goto 4, 229, 230, 0), (229, .iconst (-1), 230, 0, 0), (230, .putfield 37, 233, 11, 136), (233, .aload_n 0, 234, 0, 0), (234, .getfield 218, 237, 11, 13),
  (237, .ifCond .le 8, 240, 245, 0), (240, .aload_n 0, 241, 0, 0), (241, .getfield 218, 244, 11, 13), (244, .ireturn, 245, 0, 0), (245, .aload_n 0, 246, 0, 0), (246, .getfield 227, 249, 11, 15), (249, .ifCond .le 8, 252, 257, 0), (252, .aload_n 0, 253, 0, 0),
  (253, .getfield 227, 256, 11, 15), (256, .ireturn, 257, 0, 0), (257, .aload_n 0, 258, 0, 0), (258, .aload_n 0, 259, 0, 0), (259, .getfield 251, 262, 11, 19), (262, .putfield 248, 265, 11, 144), (265, .aload_n 0, 266, 0, 0), (266, .invokevirtual 175, 269, 189, 0),
  (269, .aload_n 0, 270, 0, 0), (270, .invokevirtual 178, 273, 190, 0), (273, .aload_n 0, 274, 0, 0), (274, .iconst 0, 275, 0, 0), (275, .putfield 270, 278, 11, 464), (278, .aload_n 0, 279, 0, 0), (279, .iconst 0, 280, 0, 0), (280, .putfield 273, 283, 11, 504),
  (283, .iconst 0, 284, 0, 0), (284, .istore_n 1, 285, 1, 0), (285, .iload_n 1, 286, 1, 0), (286, .iconst 3, 287, 0, 0), (287, .if_icmp .ge 16, 290, 303, 0), (290, .aload_n 0, 291, 0, 0), (291, .getfield 161, 294, 11, 68), (294, .iload_n 1, 295, 1, 0),
  (295, .iconst 0, 296, 0, 0), (296, .bastore, 297, 2, 0), (297, .iinc 1 1, 300, 1, 0), (300, .goto (-15), 303, 285, 0), (303, .iconst 0, 304, 0, 0), (304, .ireturn, 305, 0, 0)]
set_option maxRecDepth 20000 in
/-- 195: StoneHomeModel.cut()V -/
def at_X11_cut : List (Nat × am_I) := [(0, .aload_n 0, 1, 0, 0), (1, .iconst 0, 2, 0, 0), (2, .putfield 196, 5, 11, 80), (5, .iconst 0, 6, 0, 0), (6, .istore_n 1, 7, 1, 0), (7, .aload_n 0, 8, 0, 0), (8, .getfield 196, 11, 11, 10), (11, .sipush 400, 14, 0, 0),
  (14, .if_icmp .gt 280, 17, 294, 0), (17, .aload_n 0, 18, 0, 0), (18, .iload_n 1, 19, 1, 0), (19, .invokevirtual 199, 22, 196, 1), (22, .istore_n 2, 23, 2, 0), (23, .iload_n 1, 24, 1, 0), (24, .aload_n 0, 25, 0, 0), (25, .getfield 187, 28, 11, 4),
  (28, .if_icmp .lt 15, 31, 43, 0), (31, .aload_n 0, 32, 0, 0), (32, .iconst 0, 33, 0, 0), (33, .aload_n 0, 34, 0, 0), (34, .getfield 187, 37, 11, 4), (37, .iconst 0, 38, 0, 0), (38, .lconst 0, 39, 0, 0), (39, .invokevirtual 203, 42, 197, 4),
  (42, .return_, 43, 0, 0), (43, .iload_n 2, 44, 2, 0), (44, .bipush 9, 46, 0, 0), (46, .if_icmp .eq 21, 49, 67, 0), (49, .iload_n 2, 50, 2, 0), (50, .bipush 10, 52, 0, 0), (52, .if_icmp .eq 15, 55, 67, 0), (55, .iload_n 2, 56, 2, 0),
  (56, .bipush 13, 58, 0, 0), (58, .if_icmp .eq 9, 61, 67, 0), (61, .iload_n 2, 62, 2, 0), (62, .bipush 32, 64, 0, 0), (64, .if_icmp .ne 9, 67, 73, 0), (67, .iinc 1 1, 70, 1, 0), (70, .goto 221, 73, 291, 0), (73, .iload_n 2, 74, 2, 0),
  (74, .invokestatic 207, 77, 198, 1), (77, .ifCond .eq 119, 80, 196, 0), (80, .iconst 0, 81, 0, 0), (81, .istore_n 3, 82, 3, 0), (82, .lconst 0, 83, 0, 0), (83, .lstore 4, 85, 4, 0), (85, .aload_n 0, 86, 0, 0), (86, .iload_n 1, 87, 1, 0),
  (87, .iload_n 3, 88, 3, 0), (88, .iadd, 89, 0, 0), (89, .invokevirtual 199, 92, 196, 1), (92, .invokestatic 207, 95, 198, 1), (95, .ifCond .eq 29, 98, 124, 0), (98, .iload_n 3, 99, 3, 0), (99, .bipush 8, 101, 0, 0), (101, .if_icmp .ge 17, 104, 118, 0),
  (104, .lload 4, 106, 4, 0), (106, .aload_n 0, 107, 0, 0), (107, .iload_n 1, 108, 1, 0), (108, .iload_n 3, 109, 3, 0), (109, .iadd, 110, 0, 0), (110, .invokevirtual 199, 113, 196, 1), (113, .invokestatic 192, 116, 188, 2), (116, .lstore 4, 118, 4, 0),
  (118, .iinc 3 1, 121, 3, 0), (121, .goto (-36), 124, 85, 0), (124, .iload_n 3, 125, 3, 0), (125, .bipush 8, 127, 0, 0), (127, .if_icmp .le 7, 130, 134, 0), (130, .iconst 3, 131, 0, 0), (131, .goto 4, 134, 135, 0), (134, .iconst 1, 135, 0, 0),
  (135, .istore 6, 137, 6, 0), (137, .iload_n 3, 138, 3, 0), (138, .bipush 7, 140, 0, 0), (140, .if_icmp .gt 39, 143, 179, 0), (143, .iconst 0, 144, 0, 0), (144, .istore 7, 146, 7, 0), (146, .iload 7, 148, 7, 0), (148, .bipush 23, 150, 0, 0),
  (150, .if_icmp .ge 29, 153, 179, 0), (153, .aload_n 0, 154, 0, 0), (154, .getfield 34, 157, 11, 9), (157, .iload 7, 159, 7, 0), (159, .laload, 160, 0, 0), (160, .lload 4, 162, 4, 0), (162, .lcmp, 163, 0, 0), (163, .ifCond .ne 10, 166, 173, 0),
  (166, .bipush 20, 168, 0, 0), (168, .iload 7, 170, 7, 0), (170, .iadd, 171, 0, 0), (171, .istore 6, 173, 6, 0), (173, .iinc 7 1, 176, 7, 0), (176, .goto (-30), 179, 146, 0), (179, .aload_n 0, 180, 0, 0), (180, .iload 6, 182, 6, 0),
  (182, .iload_n 1, 183, 1, 0), (183, .iconst 0, 184, 0, 0), (184, .lload 4, 186, 4, 0), (186, .invokevirtual 203, 189, 197, 4), (189, .iload_n 1, 190, 1, 0), (190, .iload_n 3, 191, 3, 0), (191, .iadd, 192, 0, 0), (192, .istore_n 1, 193, 1, 0),
  (193, .goto 98, 196, 291, 0), (196, .iload_n 2, 197, 2, 0), (197, .invokestatic 211, 200, 199, 1), (200, .ifCond .eq 75, 203, 275, 0), (203, .iconst 0, 204, 0, 0), (204, .istore_n 3, 205, 3, 0), (205, .iconst 0, 206, 0, 0), (206, .istore 4, 208, 4, 0),
  (208, .aload_n 0, 209, 0, 0), (209, .iload_n 1, 210, 1, 0), (210, .iload_n 3, 211, 3, 0), (211, .iadd, 212, 0, 0), (212, .invokevirtual 199, 215, 196, 1), (215, .invokestatic 211, 218, 199, 1), (218, .ifCond .eq 32, 221, 250, 0), (221, .iload_n 3, 222, 3, 0),
  (222, .iconst 4, 223, 0, 0), (223, .if_icmp .ge 21, 226, 244, 0), (226, .bipush 10, 228, 0, 0), (228, .iload 4, 230, 4, 0), (230, .imul, 231, 0, 0), (231, .aload_n 0, 232, 0, 0), (232, .iload_n 1, 233, 1, 0), (233, .iload_n 3, 234, 3, 0),
  (234, .iadd, 235, 0, 0), (235, .invokevirtual 199, 238, 196, 1), (238, .iadd, 239, 0, 0), (239, .bipush 48, 241, 0, 0), (241, .isub, 242, 0, 0), (242, .istore 4, 244, 4, 0), (244, .iinc 3 1, 247, 3, 0), (247, .goto (-39), 250, 208, 0),
  (250, .aload_n 0, 251, 0, 0), (251, .iload_n 3, 252, 3, 0), (252, .iconst 4, 253, 0, 0), (253, .if_icmp .le 7, 256, 260, 0), (256, .iconst 3, 257, 0, 0), (257, .goto 4, 260, 261, 0), (260, .iconst 2, 261, 0, 0), (261, .iload_n 1, 262, 1, 0),
  (262, .iload 4, 264, 4, 0), (264, .lconst 0, 265, 0, 0), (265, .invokevirtual 203, 268, 197, 4), (268, .iload_n 1, 269, 1, 0), (269, .iload_n 3, 270, 3, 0), (270, .iadd, 271, 0, 0), (271, .istore_n 1, 272, 1, 0), (272, .goto 19, 275, 291, 0),
  (275, .iload_n 1, 276, 1, 0), (276, .aload_n 0, 277, 0, 0), (277, .iload_n 1, 278, 1, 0), (278, .iload_n 2, 279, 2, 0), (279, .aload_n 0, 280, 0, 0), (280, .iload_n 1, 281, 1, 0), (281, .iconst 1, 282, 0, 0), (282, .iadd, 283, 0, 0),
  (283, .invokevirtual 199, 286, 196, 1), (286, .invokevirtual 214, 289, 200, 3), (289, .iadd, 290, 0, 0), (290, .istore_n 1, 291, 1, 0), (291, .goto (-284), 294, 7, 0), (294, .return_, 295, 0, 0)]
set_option maxRecDepth 20000 in
/-- 196: StoneHomeModel.byteAt(I)I -/
def at_X11_byteAt : List (Nat × am_I) := [(0, .iload_n 1, 1, 1, 0), (1, .aload_n 0, 2, 0, 0), (2, .getfield 187, 5, 11, 4), (5, .if_icmp .ge 16, 8, 21, 0), (8, .aload_n 0, 9, 0, 0), (9, .getfield 17, 12, 11, 3), (12, .iload_n 1, 13, 1, 0), (13, .baload, 14, 1, 0),
  (14, .sipush 255, 17, 0, 0), (17, .iand, 18, 0, 0), (18, .goto 4, 21, 22, 0), (21, .iconst 0, 22, 0, 0), (22, .ireturn, 23, 0, 0)]
set_option maxRecDepth 20000 in
/-- 197: StoneHomeModel.token(IIIJ)V -/
def at_X11_token : List (Nat × am_I) := [(0, .aload_n 0, 1, 0, 0), (1, .getfield 20, 4, 11, 5), (4, .aload_n 0, 5, 0, 0), (5, .getfield 196, 8, 11, 10), (8, .iload_n 1, 9, 1, 0), (9, .iastore, 10, 0, 0), (10, .aload_n 0, 11, 0, 0), (11, .getfield 24, 14, 11, 6),
  (14, .aload_n 0, 15, 0, 0), (15, .getfield 196, 18, 11, 10), (18, .iload_n 2, 19, 2, 0), (19, .iastore, 20, 0, 0), (20, .aload_n 0, 21, 0, 0), (21, .getfield 27, 24, 11, 7), (24, .aload_n 0, 25, 0, 0), (25, .getfield 196, 28, 11, 10),
  (28, .iload_n 3, 29, 3, 0), (29, .iastore, 30, 0, 0), (30, .aload_n 0, 31, 0, 0), (31, .getfield 30, 34, 11, 8), (34, .aload_n 0, 35, 0, 0), (35, .getfield 196, 38, 11, 10), (38, .lload 4, 40, 4, 0), (40, .lastore, 41, 0, 0),
  (41, .aload_n 0, 42, 0, 0), (42, .dup, 43, 0, 0), (43, .getfield 196, 46, 11, 10), (46, .iconst 1, 47, 0, 0), (47, .iadd, 48, 0, 0), (48, .putfield 196, 51, 11, 80), (51, .return_, 52, 0, 0)]
set_option maxRecDepth 20000 in
/-- 198: StoneHomeModel.isLetter(I)Z -/
def at_X11_isLetter : List (Nat × am_I) := [(0, .iload_n 0, 1, 0, 0), (1, .bipush 97, 3, 0, 0), (3, .if_icmp .lt 13, 6, 16, 0), (6, .iload_n 0, 7, 0, 0), (7, .bipush 122, 9, 0, 0), (9, .if_icmp .gt 7, 12, 16, 0), (12, .iconst 1, 13, 0, 0), (13, .goto 4, 16, 17, 0),
  (16, .iconst 0, 17, 0, 0), (17, .ireturn, 18, 0, 0)]
set_option maxRecDepth 20000 in
/-- 199: StoneHomeModel.isDigit(I)Z -/
def at_X11_isDigit : List (Nat × am_I) := [(0, .iload_n 0, 1, 0, 0), (1, .bipush 48, 3, 0, 0), (3, .if_icmp .lt 13, 6, 16, 0), (6, .iload_n 0, 7, 0, 0), (7, .bipush 57, 9, 0, 0), (9, .if_icmp .gt 7, 12, 16, 0), (12, .iconst 1, 13, 0, 0), (13, .goto 4, 16, 17, 0),
  (16, .iconst 0, 17, 0, 0), (17, .ireturn, 18, 0, 0)]
set_option maxRecDepth 20000 in
/-- 200: StoneHomeModel.sign(III)I -/
def at_X11_sign : List (Nat × am_I) := [(0, .iload_n 2, 1, 2, 0), (1, .bipush 59, 3, 0, 0), (3, .if_icmp .ne 7, 6, 10, 0), (6, .iconst 4, 7, 0, 0), (7, .goto 36, 10, 43, 0), (10, .iload_n 2, 11, 2, 0), (11, .bipush 61, 13, 0, 0), (13, .if_icmp .ne 7, 16, 20, 0),
  (16, .iconst 5, 17, 0, 0), (17, .goto 26, 20, 43, 0), (20, .iload_n 2, 21, 2, 0), (21, .bipush 40, 23, 0, 0), (23, .if_icmp .ne 8, 26, 31, 0), (26, .bipush 6, 28, 0, 0), (28, .goto 15, 31, 43, 0), (31, .iload_n 2, 32, 2, 0),
  (32, .bipush 41, 34, 0, 0), (34, .if_icmp .ne 8, 37, 42, 0), (37, .bipush 7, 39, 0, 0), (39, .goto 4, 42, 43, 0), (42, .iconst 3, 43, 0, 0), (43, .istore 4, 45, 4, 0), (45, .iload_n 2, 46, 2, 0), (46, .bipush 43, 48, 0, 0),
  (48, .if_icmp .ne 7, 51, 55, 0), (51, .bipush 8, 53, 0, 0), (53, .istore 4, 55, 4, 0), (55, .iload_n 2, 56, 2, 0), (56, .bipush 45, 58, 0, 0), (58, .if_icmp .ne 7, 61, 65, 0), (61, .bipush 9, 63, 0, 0), (63, .istore 4, 65, 4, 0),
  (65, .iload_n 2, 66, 2, 0), (66, .bipush 42, 68, 0, 0), (68, .if_icmp .ne 7, 71, 75, 0), (71, .bipush 10, 73, 0, 0), (73, .istore 4, 75, 4, 0), (75, .iload_n 2, 76, 2, 0), (76, .bipush 47, 78, 0, 0), (78, .if_icmp .ne 7, 81, 85, 0),
  (81, .bipush 15, 83, 0, 0), (83, .istore 4, 85, 4, 0), (85, .iload_n 2, 86, 2, 0), (86, .bipush 60, 88, 0, 0), (88, .if_icmp .ne 7, 91, 95, 0), (91, .bipush 13, 93, 0, 0), (93, .istore 4, 95, 4, 0), (95, .aload_n 0, 96, 0, 0),
  (96, .iload 4, 98, 4, 0), (98, .iload_n 1, 99, 1, 0), (99, .iconst 0, 100, 0, 0), (100, .lconst 0, 101, 0, 0), (101, .invokevirtual 203, 104, 197, 4), (104, .iconst 1, 105, 0, 0), (105, .ireturn, 106, 0, 0)]
set_option maxRecDepth 20000 in
/-- 201: StoneHomeModel.is(I)Z -/
def at_X11_is : List (Nat × am_I) := [(0, .aload_n 0, 1, 0, 0), (1, .getfield 218, 4, 11, 13), (4, .ifCond .ne 20, 7, 24, 0), (7, .aload_n 0, 8, 0, 0), (8, .getfield 20, 11, 11, 5), (11, .aload_n 0, 12, 0, 0), (12, .getfield 221, 15, 11, 11), (15, .iaload, 16, 0, 0),
  (16, .iload_n 1, 17, 1, 0), (17, .if_icmp .ne 7, 20, 24, 0), (20, .iconst 1, 21, 0, 0), (21, .goto 4, 24, 25, 0), (24, .iconst 0, 25, 0, 0), (25, .ireturn, 26, 0, 0)]
set_option maxRecDepth 20000 in
/-- 202: StoneHomeModel.tellOne()V -/
def at_X11_tellOne : List (Nat × am_I) := [(0, .aload_n 0, 1, 0, 0), (1, .getfield 20, 4, 11, 5), (4, .aload_n 0, 5, 0, 0), (5, .getfield 221, 8, 11, 11), (8, .iaload, 9, 0, 0), (9, .tableswitch 332 20 32 #[67, 99, 126, 332, 332, 332, 332, 332, 158, 203, 248, 275, 303], 76, 341, 0), (76, .aload_n 0, 77, 0, 0), (77, .getfield 43, 80, 11, 22),
  (80, .aload_n 0, 81, 0, 0), (81, .getfield 251, 84, 11, 19), (84, .iaload, 85, 0, 0), (85, .iconst 4, 86, 0, 0), (86, .if_icmp .ne 8, 89, 94, 0), (89, .aload_n 0, 90, 0, 0), (90, .iconst 2, 91, 0, 0), (91, .invokevirtual 233, 94, 203, 1),
  (94, .aload_n 0, 95, 0, 0), (95, .getfield 218, 98, 11, 13), (98, .ifCond .ne 296, 101, 394, 0), (101, .aload_n 0, 102, 0, 0), (102, .invokevirtual 276, 105, 204, 0), (105, .goto 289, 108, 394, 0), (108, .aload_n 0, 109, 0, 0), (109, .invokevirtual 239, 112, 205, 0),
  (112, .aload_n 0, 113, 0, 0), (113, .getfield 52, 116, 11, 25), (116, .aload_n 0, 117, 0, 0), (117, .getfield 251, 120, 11, 19), (120, .aload_n 0, 121, 0, 0), (121, .iconst 1, 122, 0, 0), (122, .iconst 3, 123, 0, 0), (123, .invokevirtual 279, 126, 209, 2),
  (126, .iastore, 127, 0, 0), (127, .aload_n 0, 128, 0, 0), (128, .iconst 4, 129, 0, 0), (129, .invokevirtual 283, 132, 206, 1), (132, .goto 262, 135, 394, 0), (135, .aload_n 0, 136, 0, 0), (136, .getfield 55, 139, 11, 26), (139, .aload_n 0, 140, 0, 0),
  (140, .getfield 251, 143, 11, 19), (143, .iaload, 144, 0, 0), (144, .iconst 4, 145, 0, 0), (145, .if_icmp .ne 8, 148, 153, 0), (148, .aload_n 0, 149, 0, 0), (149, .iconst 2, 150, 0, 0), (150, .invokevirtual 233, 153, 203, 1), (153, .aload_n 0, 154, 0, 0),
  (154, .getfield 218, 157, 11, 13), (157, .ifCond .ne 237, 160, 394, 0), (160, .aload_n 0, 161, 0, 0), (161, .invokevirtual 286, 164, 210, 0), (164, .goto 230, 167, 394, 0), (167, .aload_n 0, 168, 0, 0), (168, .invokevirtual 239, 171, 205, 0), (171, .iconst 0, 172, 0, 0),
  (172, .istore_n 1, 173, 1, 0), (173, .iload_n 1, 174, 1, 0), (174, .iconst 3, 175, 0, 0), (175, .if_icmp .ge 29, 178, 204, 0), (178, .aload_n 0, 179, 0, 0), (179, .getfield 73, 182, 11, 32), (182, .iconst 3, 183, 0, 0), (183, .aload_n 0, 184, 0, 0),
  (184, .getfield 251, 187, 11, 19), (187, .imul, 188, 0, 0), (188, .iload_n 1, 189, 1, 0), (189, .iadd, 190, 0, 0), (190, .aload_n 0, 191, 0, 0), (191, .iconst 0, 192, 0, 0), (192, .bipush 9, 194, 0, 0), (194, .invokevirtual 279, 197, 209, 2),
  (197, .iastore, 198, 0, 0), (198, .iinc 1 1, 201, 1, 0), (201, .goto (-28), 204, 173, 0), (204, .aload_n 0, 205, 0, 0), (205, .iconst 4, 206, 0, 0), (206, .invokevirtual 283, 209, 206, 1), (209, .goto 185, 212, 394, 0), (212, .aload_n 0, 213, 0, 0),
  (213, .invokevirtual 239, 216, 205, 0), (216, .iconst 0, 217, 0, 0), (217, .istore_n 1, 218, 1, 0), (218, .iload_n 1, 219, 1, 0), (219, .iconst 3, 220, 0, 0), (220, .if_icmp .ge 29, 223, 249, 0), (223, .aload_n 0, 224, 0, 0), (224, .getfield 76, 227, 11, 33),
  (227, .iconst 3, 228, 0, 0), (228, .aload_n 0, 229, 0, 0), (229, .getfield 251, 232, 11, 19), (232, .imul, 233, 0, 0), (233, .iload_n 1, 234, 1, 0), (234, .iadd, 235, 0, 0), (235, .aload_n 0, 236, 0, 0), (236, .iconst 0, 237, 0, 0),
  (237, .bipush 9, 239, 0, 0), (239, .invokevirtual 279, 242, 209, 2), (242, .iastore, 243, 0, 0), (243, .iinc 1 1, 246, 1, 0), (246, .goto (-28), 249, 218, 0), (249, .aload_n 0, 250, 0, 0), (250, .iconst 4, 251, 0, 0), (251, .invokevirtual 283, 254, 206, 1),
  (254, .goto 140, 257, 394, 0), (257, .aload_n 0, 258, 0, 0), (258, .invokevirtual 239, 261, 205, 0), (261, .aload_n 0, 262, 0, 0), (262, .getfield 79, 265, 11, 34), (265, .aload_n 0, 266, 0, 0), (266, .getfield 251, 269, 11, 19), (269, .aload_n 0, 270, 0, 0),
  (270, .iconst 0, 271, 0, 0), (271, .iconst 2, 272, 0, 0), (272, .invokevirtual 279, 275, 209, 2), (275, .iastore, 276, 0, 0), (276, .aload_n 0, 277, 0, 0), (277, .iconst 4, 278, 0, 0), (278, .invokevirtual 283, 281, 206, 1), (281, .goto 113, 284, 394, 0),
  (284, .aload_n 0, 285, 0, 0), (285, .invokevirtual 239, 288, 205, 0), (288, .aload_n 0, 289, 0, 0), (289, .getfield 82, 292, 11, 35), (292, .aload_n 0, 293, 0, 0), (293, .getfield 251, 296, 11, 19), (296, .aload_n 0, 297, 0, 0), (297, .iconst 1, 298, 0, 0),
  (298, .bipush 99, 300, 0, 0), (300, .invokevirtual 279, 303, 209, 2), (303, .iastore, 304, 0, 0), (304, .aload_n 0, 305, 0, 0), (305, .iconst 4, 306, 0, 0), (306, .invokevirtual 283, 309, 206, 1), (309, .goto 85, 312, 394, 0), (312, .aload_n 0, 313, 0, 0),
  (313, .invokevirtual 239, 316, 205, 0), (316, .aload_n 0, 317, 0, 0), (317, .getfield 85, 320, 11, 36), (320, .aload_n 0, 321, 0, 0), (321, .getfield 251, 324, 11, 19), (324, .aload_n 0, 325, 0, 0), (325, .iconst 0, 326, 0, 0), (326, .sipush 9999, 329, 0, 0),
  (329, .invokevirtual 279, 332, 209, 2), (332, .iastore, 333, 0, 0), (333, .aload_n 0, 334, 0, 0), (334, .iconst 4, 335, 0, 0), (335, .invokevirtual 283, 338, 206, 1), (338, .goto 56, 341, 394, 0), (341, .aload_n 0, 342, 0, 0), (342, .getfield 20, 345, 11, 5),
  (345, .aload_n 0, 346, 0, 0), (346, .getfield 221, 349, 11, 11), (349, .iaload, 350, 0, 0), (350, .bipush 25, 352, 0, 0), (352, .isub, 353, 0, 0), (353, .istore_n 1, 354, 1, 0), (354, .iload_n 1, 355, 1, 0), (355, .ifCond .lt 17, 358, 372, 0),
  (358, .aload_n 0, 359, 0, 0), (359, .getfield 20, 362, 11, 5), (362, .aload_n 0, 363, 0, 0), (363, .getfield 221, 366, 11, 11), (366, .iaload, 367, 0, 0), (367, .bipush 27, 369, 0, 0), (369, .if_icmp .le 8, 372, 377, 0), (372, .aload_n 0, 373, 0, 0),
  (373, .iconst 1, 374, 0, 0), (374, .invokevirtual 233, 377, 203, 1), (377, .aload_n 0, 378, 0, 0), (378, .getfield 218, 381, 11, 13), (381, .ifCond .le 4, 384, 385, 0), (384, .return_, 385, 0, 0), (385, .aload_n 0, 386, 0, 0), (386, .invokevirtual 239, 389, 205, 0),
  (389, .aload_n 0, 390, 0, 0), (390, .iload_n 1, 391, 1, 0), (391, .invokevirtual 289, 394, 212, 1), (394, .return_, 395, 0, 0)]
set_option maxRecDepth 20000 in
/-- 203: StoneHomeModel.fail(I)V -/
def at_X11_fail : List (Nat × am_I) := [(0, .aload_n 0, 1, 0, 0), (1, .getfield 218, 4, 11, 13), (4, .ifCond .le 4, 7, 8, 0), (7, .return_, 8, 0, 0), (8, .aload_n 0, 9, 0, 0), (9, .iload_n 1, 10, 1, 0), (10, .putfield 218, 13, 11, 104), (13, .aload_n 0, 14, 0, 0),
  (14, .aload_n 0, 15, 0, 0), (15, .getfield 24, 18, 11, 6), (18, .aload_n 0, 19, 0, 0), (19, .getfield 221, 22, 11, 11), (22, .iaload, 23, 0, 0), (23, .putfield 224, 26, 11, 112), (26, .return_, 27, 0, 0)]
set_option maxRecDepth 20000 in
/-- 204: StoneHomeModel.tellRow()V -/
def at_X11_tellRow : List (Nat × am_I) := [(0, .aload_n 0, 1, 0, 0), (1, .invokevirtual 239, 4, 205, 0), (4, .aload_n 0, 5, 0, 0), (5, .getfield 221, 8, 11, 11), (8, .istore_n 1, 9, 1, 0), (9, .aload_n 0, 10, 0, 0), (10, .iconst 1, 11, 0, 0), (11, .invokevirtual 283, 14, 206, 1),
  (14, .aload_n 0, 15, 0, 0), (15, .getfield 218, 18, 11, 13), (18, .ifCond .ne 160, 21, 178, 0), (21, .aload_n 0, 22, 0, 0), (22, .getfield 30, 25, 11, 8), (25, .iload_n 1, 26, 1, 0), (26, .laload, 27, 0, 0), (27, .lstore_n 2, 28, 2, 0),
  (28, .iconst 0, 29, 0, 0), (29, .istore 4, 31, 4, 0), (31, .lload_n 2, 32, 2, 0), (32, .lstore 5, 34, 5, 0), (34, .lload 5, 36, 5, 0), (36, .lconst 0, 37, 0, 0), (37, .lcmp, 38, 0, 0), (38, .ifCond .le 17, 41, 55, 0),
  (41, .iinc 4 1, 44, 4, 0), (44, .lload 5, 46, 5, 0), (46, .ldc2_w 190, 49, 0, 27), (49, .ldiv, 50, 0, 0), (50, .lstore 5, 52, 5, 0), (52, .goto (-18), 55, 34, 0), (55, .aload_n 0, 56, 0, 0), (56, .getfield 43, 59, 11, 22),
  (59, .aload_n 0, 60, 0, 0), (60, .getfield 251, 63, 11, 19), (63, .iaload, 64, 0, 0), (64, .ifCond .ne 14, 67, 78, 0), (67, .aload_n 0, 68, 0, 0), (68, .getfield 46, 71, 11, 23), (71, .aload_n 0, 72, 0, 0), (72, .getfield 251, 75, 11, 19),
  (75, .iload 4, 77, 4, 0), (77, .iastore, 78, 0, 0), (78, .iload 4, 80, 4, 0), (80, .aload_n 0, 81, 0, 0), (81, .getfield 46, 84, 11, 23), (84, .aload_n 0, 85, 0, 0), (85, .getfield 251, 88, 11, 19), (88, .iaload, 89, 0, 0),
  (89, .if_icmp .eq 10, 92, 99, 0), (92, .aload_n 0, 93, 0, 0), (93, .bipush 6, 95, 0, 0), (95, .iload_n 1, 96, 1, 0), (96, .invokevirtual 292, 99, 207, 2), (99, .iload 4, 101, 4, 0), (101, .iconst 1, 102, 0, 0), (102, .isub, 103, 0, 0),
  (103, .istore 5, 105, 5, 0), (105, .iload 5, 107, 5, 0), (107, .ifCond .lt 71, 110, 178, 0), (110, .bipush 96, 112, 0, 0), (112, .lload_n 2, 113, 2, 0), (113, .ldc2_w 190, 116, 0, 27), (116, .lrem, 117, 0, 0), (117, .l2i, 118, 0, 0),
  (118, .iadd, 119, 0, 0), (119, .invokestatic 296, 122, 208, 1), (122, .istore 6, 124, 6, 0), (124, .iload 6, 126, 6, 0), (126, .ifCond .ge 10, 129, 136, 0), (129, .aload_n 0, 130, 0, 0), (130, .bipush 6, 132, 0, 0), (132, .iload_n 1, 133, 1, 0),
  (133, .invokevirtual 292, 136, 207, 2), (136, .aload_n 0, 137, 0, 0), (137, .getfield 49, 140, 11, 24), (140, .bipush 32, 142, 0, 0), (142, .aload_n 0, 143, 0, 0), (143, .getfield 251, 146, 11, 19), (146, .imul, 147, 0, 0), (147, .bipush 8, 149, 0, 0),
  (149, .aload_n 0, 150, 0, 0), (150, .getfield 43, 153, 11, 22), (153, .aload_n 0, 154, 0, 0), (154, .getfield 251, 157, 11, 19), (157, .iaload, 158, 0, 0), (158, .imul, 159, 0, 0), (159, .iadd, 160, 0, 0), (160, .iload 5, 162, 5, 0),
  (162, .iadd, 163, 0, 0), (163, .iload 6, 165, 6, 0), (165, .iastore, 166, 0, 0), (166, .lload_n 2, 167, 2, 0), (167, .ldc2_w 190, 170, 0, 27), (170, .ldiv, 171, 0, 0), (171, .lstore_n 2, 172, 2, 0), (172, .iinc 5 (-1), 175, 5, 0),
  (175, .goto (-70), 178, 105, 0), (178, .aload_n 0, 179, 0, 0), (179, .iconst 4, 180, 0, 0), (180, .invokevirtual 283, 183, 206, 1), (183, .aload_n 0, 184, 0, 0), (184, .getfield 218, 187, 11, 13), (187, .ifCond .ne 16, 190, 203, 0), (190, .aload_n 0, 191, 0, 0),
  (191, .getfield 43, 194, 11, 22), (194, .aload_n 0, 195, 0, 0), (195, .getfield 251, 198, 11, 19), (198, .dup2, 199, 0, 0), (199, .iaload, 200, 0, 0), (200, .iconst 1, 201, 0, 0), (201, .iadd, 202, 0, 0), (202, .iastore, 203, 0, 0),
  (203, .return_, 204, 0, 0)]
set_option maxRecDepth 20000 in
/-- 205: StoneHomeModel.goesOn()V -/
def at_X11_goesOn : List (Nat × am_I) := [(0, .aload_n 0, 1, 0, 0), (1, .getfield 221, 4, 11, 11), (4, .sipush 400, 7, 0, 0), (7, .if_icmp .ne 11, 10, 18, 0), (10, .aload_n 0, 11, 0, 0), (11, .iconst 2, 12, 0, 0), (12, .invokevirtual 233, 15, 203, 1), (15, .goto 13, 18, 28, 0),
  (18, .aload_n 0, 19, 0, 0), (19, .dup, 20, 0, 0), (20, .getfield 221, 23, 11, 11), (23, .iconst 1, 24, 0, 0), (24, .iadd, 25, 0, 0), (25, .putfield 221, 28, 11, 88), (28, .return_, 29, 0, 0)]
set_option maxRecDepth 20000 in
/-- 206: StoneHomeModel.must(I)V -/
def at_X11_must : List (Nat × am_I) := [(0, .aload_n 0, 1, 0, 0), (1, .iload_n 1, 2, 1, 0), (2, .invokevirtual 236, 5, 201, 1), (5, .ifCond .eq 10, 8, 15, 0), (8, .aload_n 0, 9, 0, 0), (9, .invokevirtual 239, 12, 205, 0), (12, .goto 8, 15, 20, 0), (15, .aload_n 0, 16, 0, 0),
  (16, .iconst 1, 17, 0, 0), (17, .invokevirtual 233, 20, 203, 1), (20, .return_, 21, 0, 0)]
set_option maxRecDepth 20000 in
/-- 207: StoneHomeModel.wrong(II)V -/
def at_X11_wrong : List (Nat × am_I) := [(0, .aload_n 0, 1, 0, 0), (1, .getfield 24, 4, 11, 6), (4, .iload_n 2, 5, 2, 0), (5, .iaload, 6, 0, 0), (6, .istore_n 3, 7, 3, 0), (7, .aload_n 0, 8, 0, 0), (8, .getfield 218, 11, 11, 13), (11, .ifCond .gt 34, 14, 45, 0),
  (14, .aload_n 0, 15, 0, 0), (15, .getfield 227, 18, 11, 15), (18, .ifCond .eq 28, 21, 46, 0), (21, .iload_n 3, 22, 3, 0), (22, .aload_n 0, 23, 0, 0), (23, .getfield 230, 26, 11, 16), (26, .if_icmp .gt 19, 29, 45, 0), (29, .iload_n 3, 30, 3, 0),
  (30, .aload_n 0, 31, 0, 0), (31, .getfield 230, 34, 11, 16), (34, .if_icmp .ne 12, 37, 46, 0), (37, .iload_n 1, 38, 1, 0), (38, .aload_n 0, 39, 0, 0), (39, .getfield 227, 42, 11, 15), (42, .if_icmp .lt 4, 45, 46, 0), (45, .return_, 46, 0, 0),
  (46, .aload_n 0, 47, 0, 0), (47, .iload_n 1, 48, 1, 0), (48, .putfield 227, 51, 11, 120), (51, .aload_n 0, 52, 0, 0), (52, .iload_n 3, 53, 3, 0), (53, .putfield 230, 56, 11, 128), (56, .return_, 57, 0, 0)]
set_option maxRecDepth 20000 in
/-- 208: StoneHomeModel.sortBy(I)I -/
def at_X11_sortBy : List (Nat × am_I) := [(0, .iload_n 0, 1, 0, 0), (1, .tableswitch 114 99 119 #[101, 114, 114, 114, 107, 111, 114, 114, 114, 114, 114, 114, 114, 105, 114, 114, 103, 99, 114, 114, 109], 100, 115, 0), (100, .iconst 0, 101, 0, 0), (101, .ireturn, 102, 0, 0), (102, .iconst 1, 103, 0, 0), (103, .ireturn, 104, 0, 0), (104, .iconst 2, 105, 0, 0), (105, .ireturn, 106, 0, 0),
  (106, .iconst 3, 107, 0, 0), (107, .ireturn, 108, 0, 0), (108, .iconst 4, 109, 0, 0), (109, .ireturn, 110, 0, 0), (110, .iconst 5, 111, 0, 0), (111, .ireturn, 112, 0, 0), (112, .bipush 6, 114, 0, 0), (114, .ireturn, 115, 0, 0),
  (115, .iconst (-1), 116, 0, 0), (116, .ireturn, 117, 0, 0)]
set_option maxRecDepth 20000 in
/-- 209: StoneHomeModel.bounded(II)I -/
def at_X11_bounded : List (Nat × am_I) := [(0, .aload_n 0, 1, 0, 0), (1, .getfield 218, 4, 11, 13), (4, .ifCond .gt 11, 7, 15, 0), (7, .aload_n 0, 8, 0, 0), (8, .iconst 2, 9, 0, 0), (9, .invokevirtual 236, 12, 201, 1), (12, .ifCond .ne 10, 15, 22, 0), (15, .aload_n 0, 16, 0, 0),
  (16, .iconst 1, 17, 0, 0), (17, .invokevirtual 233, 20, 203, 1), (20, .iload_n 1, 21, 1, 0), (21, .ireturn, 22, 0, 0), (22, .aload_n 0, 23, 0, 0), (23, .getfield 27, 26, 11, 7), (26, .aload_n 0, 27, 0, 0), (27, .getfield 221, 30, 11, 11),
  (30, .iaload, 31, 0, 0), (31, .istore_n 3, 32, 3, 0), (32, .iload_n 3, 33, 3, 0), (33, .iload_n 1, 34, 1, 0), (34, .if_icmp .lt 8, 37, 42, 0), (37, .iload_n 3, 38, 3, 0), (38, .iload_n 2, 39, 2, 0), (39, .if_icmp .le 12, 42, 51, 0),
  (42, .aload_n 0, 43, 0, 0), (43, .iconst 5, 44, 0, 0), (44, .aload_n 0, 45, 0, 0), (45, .getfield 221, 48, 11, 11), (48, .invokevirtual 292, 51, 207, 2), (51, .aload_n 0, 52, 0, 0), (52, .invokevirtual 239, 55, 205, 0), (55, .iload_n 3, 56, 3, 0),
  (56, .ireturn, 57, 0, 0)]
set_option maxRecDepth 20000 in
/-- 210: StoneHomeModel.tellKick()V -/
def at_X11_tellKick : List (Nat × am_I) := [(0, .aload_n 0, 1, 0, 0), (1, .invokevirtual 239, 4, 205, 0), (4, .iconst 4, 5, 0, 0), (5, .aload_n 0, 6, 0, 0), (6, .getfield 251, 9, 11, 19), (9, .imul, 10, 0, 0), (10, .aload_n 0, 11, 0, 0), (11, .getfield 55, 14, 11, 26),
  (14, .aload_n 0, 15, 0, 0), (15, .getfield 251, 18, 11, 19), (18, .iaload, 19, 0, 0), (19, .iadd, 20, 0, 0), (20, .istore_n 1, 21, 1, 0), (21, .aload_n 0, 22, 0, 0), (22, .getfield 221, 25, 11, 11), (25, .istore_n 2, 26, 2, 0),
  (26, .aload_n 0, 27, 0, 0), (27, .iconst 1, 28, 0, 0), (28, .invokevirtual 283, 31, 206, 1), (31, .iconst 0, 32, 0, 0), (32, .istore_n 3, 33, 3, 0), (33, .iload_n 3, 34, 3, 0), (34, .aload_n 0, 35, 0, 0), (35, .getfield 254, 38, 11, 20),
  (38, .if_icmp .ge 38, 41, 76, 0), (41, .aload_n 0, 42, 0, 0), (42, .getfield 218, 45, 11, 13), (45, .ifCond .ne 31, 48, 76, 0), (48, .aload_n 0, 49, 0, 0), (49, .getfield 40, 52, 11, 21), (52, .iload_n 3, 53, 3, 0), (53, .laload, 54, 0, 0),
  (54, .aload_n 0, 55, 0, 0), (55, .getfield 30, 58, 11, 8), (58, .iload_n 2, 59, 2, 0), (59, .laload, 60, 0, 0), (60, .lcmp, 61, 0, 0), (61, .ifCond .ne 9, 64, 70, 0), (64, .aload_n 0, 65, 0, 0), (65, .iconst 3, 66, 0, 0),
  (66, .iload_n 2, 67, 2, 0), (67, .invokevirtual 292, 70, 207, 2), (70, .iinc 3 1, 73, 3, 0), (73, .goto (-40), 76, 33, 0), (76, .iconst 0, 77, 0, 0), (77, .istore_n 3, 78, 3, 0), (78, .iconst 0, 79, 0, 0), (79, .istore 4, 81, 4, 0),
  (81, .aload_n 0, 82, 0, 0), (82, .getfield 218, 85, 11, 13), (85, .ifCond .ne 62, 88, 147, 0), (88, .aload_n 0, 89, 0, 0), (89, .iconst 2, 90, 0, 0), (90, .invokevirtual 236, 93, 201, 1), (93, .ifCond .eq 54, 96, 147, 0), (96, .iload_n 3, 97, 3, 0),
  (97, .bipush 6, 99, 0, 0), (99, .if_icmp .ne 8, 102, 107, 0), (102, .aload_n 0, 103, 0, 0), (103, .iconst 2, 104, 0, 0), (104, .invokevirtual 233, 107, 203, 1), (107, .aload_n 0, 108, 0, 0), (108, .getfield 218, 111, 11, 13), (111, .ifCond .le 4, 114, 115, 0),
  (114, .return_, 115, 0, 0), (115, .aload_n 0, 116, 0, 0), (116, .bipush 6, 118, 0, 0), (118, .iload_n 1, 119, 1, 0), (119, .imul, 120, 0, 0), (120, .iload_n 3, 121, 3, 0), (121, .iadd, 122, 0, 0), (122, .invokevirtual 299, 125, 211, 1),
  (125, .iload 4, 127, 4, 0), (127, .aload_n 0, 128, 0, 0), (128, .getfield 61, 131, 11, 28), (131, .bipush 6, 133, 0, 0), (133, .iload_n 1, 134, 1, 0), (134, .imul, 135, 0, 0), (135, .iload_n 3, 136, 3, 0), (136, .iadd, 137, 0, 0),
  (137, .iaload, 138, 0, 0), (138, .iadd, 139, 0, 0), (139, .istore 4, 141, 4, 0), (141, .iinc 3 1, 144, 3, 0), (144, .goto (-63), 147, 81, 0), (147, .aload_n 0, 148, 0, 0), (148, .getfield 218, 151, 11, 13), (151, .ifCond .ne 16, 154, 167, 0),
  (154, .iload 4, 156, 4, 0), (156, .bipush 6, 158, 0, 0), (158, .if_icmp .eq 9, 161, 167, 0), (161, .aload_n 0, 162, 0, 0), (162, .iconst 5, 163, 0, 0), (163, .iload_n 2, 164, 2, 0), (164, .invokevirtual 292, 167, 207, 2), (167, .aload_n 0, 168, 0, 0),
  (168, .iconst 4, 169, 0, 0), (169, .invokevirtual 283, 172, 206, 1), (172, .aload_n 0, 173, 0, 0), (173, .getfield 58, 176, 11, 27), (176, .iload_n 1, 177, 1, 0), (177, .iload_n 3, 178, 3, 0), (178, .iastore, 179, 0, 0), (179, .aload_n 0, 180, 0, 0),
  (180, .getfield 218, 183, 11, 13), (183, .ifCond .le 4, 186, 187, 0), (186, .return_, 187, 0, 0), (187, .aload_n 0, 188, 0, 0), (188, .getfield 40, 191, 11, 21), (191, .aload_n 0, 192, 0, 0), (192, .getfield 254, 195, 11, 20), (195, .aload_n 0, 196, 0, 0),
  (196, .getfield 30, 199, 11, 8), (199, .iload_n 2, 200, 2, 0), (200, .laload, 201, 0, 0), (201, .lastore, 202, 0, 0), (202, .aload_n 0, 203, 0, 0), (203, .dup, 204, 0, 0), (204, .getfield 254, 207, 11, 20), (207, .iconst 1, 208, 0, 0),
  (208, .iadd, 209, 0, 0), (209, .putfield 254, 212, 11, 160), (212, .aload_n 0, 213, 0, 0), (213, .getfield 55, 216, 11, 26), (216, .aload_n 0, 217, 0, 0), (217, .getfield 251, 220, 11, 19), (220, .dup2, 221, 0, 0), (221, .iaload, 222, 0, 0),
  (222, .iconst 1, 223, 0, 0), (223, .iadd, 224, 0, 0), (224, .iastore, 225, 0, 0), (225, .return_, 226, 0, 0)]
set_option maxRecDepth 20000 in
/-- 211: StoneHomeModel.tellOutcome(I)V -/
def at_X11_tellOutcome : List (Nat × am_I) := [(0, .aload_n 0, 1, 0, 0), (1, .getfield 61, 4, 11, 28), (4, .iload_n 1, 5, 1, 0), (5, .aload_n 0, 6, 0, 0), (6, .iconst 1, 7, 0, 0), (7, .bipush 6, 9, 0, 0), (9, .invokevirtual 279, 12, 209, 2), (12, .iastore, 13, 0, 0),
  (13, .aload_n 0, 14, 0, 0), (14, .bipush 23, 16, 0, 0), (16, .invokevirtual 283, 19, 206, 1), (19, .aload_n 0, 20, 0, 0), (20, .getfield 64, 23, 11, 29), (23, .iload_n 1, 24, 1, 0), (24, .aload_n 0, 25, 0, 0), (25, .iconst 0, 26, 0, 0),
  (26, .iconst 4, 27, 0, 0), (27, .invokevirtual 279, 30, 209, 2), (30, .iastore, 31, 0, 0), (31, .aload_n 0, 32, 0, 0), (32, .bipush 9, 34, 0, 0), (34, .invokevirtual 236, 37, 201, 1), (37, .istore_n 2, 38, 2, 0), (38, .iload_n 2, 39, 2, 0),
  (39, .ifCond .eq 7, 42, 46, 0), (42, .aload_n 0, 43, 0, 0), (43, .invokevirtual 239, 46, 205, 0), (46, .aload_n 0, 47, 0, 0), (47, .iconst 0, 48, 0, 0), (48, .iconst 2, 49, 0, 0), (49, .invokevirtual 279, 52, 209, 2), (52, .istore_n 3, 53, 3, 0),
  (53, .aload_n 0, 54, 0, 0), (54, .getfield 67, 57, 11, 30), (57, .iload_n 1, 58, 1, 0), (58, .iload_n 2, 59, 2, 0), (59, .ifCond .eq 8, 62, 67, 0), (62, .iload_n 3, 63, 3, 0), (63, .ineg, 64, 0, 0), (64, .goto 4, 67, 68, 0),
  (67, .iload_n 3, 68, 3, 0), (68, .iastore, 69, 0, 0), (69, .aload_n 0, 70, 0, 0), (70, .getfield 70, 73, 11, 31), (73, .iload_n 1, 74, 1, 0), (74, .iconst 0, 75, 0, 0), (75, .iastore, 76, 0, 0), (76, .aload_n 0, 77, 0, 0),
  (77, .getfield 218, 80, 11, 13), (80, .ifCond .gt 12, 83, 92, 0), (83, .aload_n 0, 84, 0, 0), (84, .bipush 24, 86, 0, 0), (86, .invokevirtual 236, 89, 201, 1), (89, .ifCond .ne 4, 92, 93, 0), (92, .return_, 93, 0, 0), (93, .aload_n 0, 94, 0, 0),
  (94, .invokevirtual 239, 97, 205, 0), (97, .aload_n 0, 98, 0, 0), (98, .getfield 70, 101, 11, 31), (101, .iload_n 1, 102, 1, 0), (102, .aload_n 0, 103, 0, 0), (103, .iconst 0, 104, 0, 0), (104, .iconst 2, 105, 0, 0), (105, .invokevirtual 279, 108, 209, 2),
  (108, .iastore, 109, 0, 0), (109, .return_, 110, 0, 0)]
set_option maxRecDepth 20000 in
/-- 212: StoneHomeModel.tellLaw(I)V -/
def at_X11_tellLaw : List (Nat × am_I) := [(0, .aload_n 0, 1, 0, 0), (1, .iconst 5, 2, 0, 0), (2, .invokevirtual 283, 5, 206, 1), (5, .aload_n 0, 6, 0, 0), (6, .getfield 257, 9, 11, 39), (9, .istore_n 2, 10, 2, 0), (10, .iconst 0, 11, 0, 0), (11, .istore_n 3, 12, 3, 0),
  (12, .aload_n 0, 13, 0, 0), (13, .getfield 218, 16, 11, 13), (16, .ifCond .ne 113, 19, 129, 0), (19, .aload_n 0, 20, 0, 0), (20, .bipush 33, 22, 0, 0), (22, .invokevirtual 236, 25, 201, 1), (25, .ifCond .eq 104, 28, 129, 0), (28, .iload_n 3, 29, 3, 0),
  (29, .iconst 4, 30, 0, 0), (30, .if_icmp .ne 8, 33, 38, 0), (33, .aload_n 0, 34, 0, 0), (34, .iconst 2, 35, 0, 0), (35, .invokevirtual 233, 38, 203, 1), (38, .aload_n 0, 39, 0, 0), (39, .getfield 218, 42, 11, 13), (42, .ifCond .le 4, 45, 46, 0),
  (45, .return_, 46, 0, 0), (46, .iinc 3 1, 49, 3, 0), (49, .aload_n 0, 50, 0, 0), (50, .invokevirtual 239, 53, 205, 0), (53, .aload_n 0, 54, 0, 0), (54, .getfield 94, 57, 11, 40), (57, .aload_n 0, 58, 0, 0), (58, .getfield 257, 61, 11, 39),
  (61, .iconst 1, 62, 0, 0), (62, .bastore, 63, 2, 0), (63, .aload_n 0, 64, 0, 0), (64, .getfield 98, 67, 11, 41), (67, .aload_n 0, 68, 0, 0), (68, .getfield 257, 71, 11, 39), (71, .aload_n 0, 72, 0, 0), (72, .getfield 260, 75, 11, 45),
  (75, .iastore, 76, 0, 0), (76, .aload_n 0, 77, 0, 0), (77, .invokevirtual 302, 80, 213, 0), (80, .aload_n 0, 81, 0, 0), (81, .bipush 13, 83, 0, 0), (83, .invokevirtual 283, 86, 206, 1), (86, .aload_n 0, 87, 0, 0), (87, .getfield 101, 90, 11, 42),
  (90, .aload_n 0, 91, 0, 0), (91, .getfield 257, 94, 11, 39), (94, .aload_n 0, 95, 0, 0), (95, .getfield 260, 98, 11, 45), (98, .iastore, 99, 0, 0), (99, .aload_n 0, 100, 0, 0), (100, .getfield 218, 103, 11, 13), (103, .ifCond .ne 7, 106, 110, 0),
  (106, .aload_n 0, 107, 0, 0), (107, .invokevirtual 302, 110, 213, 0), (110, .aload_n 0, 111, 0, 0), (111, .bipush 34, 113, 0, 0), (113, .invokevirtual 283, 116, 206, 1), (116, .aload_n 0, 117, 0, 0), (117, .invokevirtual 305, 120, 217, 0), (120, .aload_n 0, 121, 0, 0),
  (121, .bipush 35, 123, 0, 0), (123, .invokevirtual 283, 126, 206, 1), (126, .goto (-114), 129, 12, 0), (129, .aload_n 0, 130, 0, 0), (130, .getfield 94, 133, 11, 40), (133, .aload_n 0, 134, 0, 0), (134, .getfield 257, 137, 11, 39), (137, .iconst 0, 138, 0, 0),
  (138, .bastore, 139, 2, 0), (139, .aload_n 0, 140, 0, 0), (140, .invokevirtual 305, 143, 217, 0), (143, .aload_n 0, 144, 0, 0), (144, .iconst 4, 145, 0, 0), (145, .invokevirtual 283, 148, 206, 1), (148, .aload_n 0, 149, 0, 0), (149, .getfield 218, 152, 11, 13),
  (152, .ifCond .le 4, 155, 156, 0), (155, .return_, 156, 0, 0), (156, .aload_n 0, 157, 0, 0), (157, .getfield 88, 160, 11, 37), (160, .iconst 3, 161, 0, 0), (161, .aload_n 0, 162, 0, 0), (162, .getfield 251, 165, 11, 19), (165, .imul, 166, 0, 0),
  (166, .iload_n 1, 167, 1, 0), (167, .iadd, 168, 0, 0), (168, .iload_n 2, 169, 2, 0), (169, .iastore, 170, 0, 0), (170, .aload_n 0, 171, 0, 0), (171, .getfield 91, 174, 11, 38), (174, .iconst 3, 175, 0, 0), (175, .aload_n 0, 176, 0, 0),
  (176, .getfield 251, 179, 11, 19), (179, .imul, 180, 0, 0), (180, .iload_n 1, 181, 1, 0), (181, .iadd, 182, 0, 0), (182, .aload_n 0, 183, 0, 0), (183, .getfield 257, 186, 11, 39), (186, .iastore, 187, 0, 0), (187, .return_, 188, 0, 0)]
set_option maxRecDepth 20000 in
/-- 213: StoneHomeModel.expression()V -/
def at_X11_expression : List (Nat × am_I) := [(0, .aload_n 0, 1, 0, 0), (1, .iconst 0, 2, 0, 0), (2, .putfield 308, 5, 11, 392), (5, .aload_n 0, 6, 0, 0), (6, .getfield 245, 9, 11, 12), (9, .istore_n 1, 10, 1, 0), (10, .iconst 1, 11, 0, 0), (11, .istore_n 2, 12, 2, 0),
  (12, .iload_n 2, 13, 2, 0), (13, .ifCond .eq 259, 16, 272, 0), (16, .aload_n 0, 17, 0, 0), (17, .getfield 218, 20, 11, 13), (20, .ifCond .ne 252, 23, 272, 0), (23, .aload_n 0, 24, 0, 0), (24, .bipush 6, 26, 0, 0), (26, .invokevirtual 236, 29, 201, 1),
  (29, .ifCond .eq 55, 32, 84, 0), (32, .aload_n 0, 33, 0, 0), (33, .getfield 245, 36, 11, 12), (36, .bipush 6, 38, 0, 0), (38, .if_icmp .ne 8, 41, 46, 0), (41, .aload_n 0, 42, 0, 0), (42, .iconst 2, 43, 0, 0), (43, .invokevirtual 233, 46, 203, 1),
  (46, .aload_n 0, 47, 0, 0), (47, .dup, 48, 0, 0), (48, .getfield 245, 51, 11, 12), (51, .iconst 1, 52, 0, 0), (52, .iadd, 53, 0, 0), (53, .putfield 245, 56, 11, 96), (56, .aload_n 0, 57, 0, 0), (57, .invokevirtual 239, 60, 205, 0),
  (60, .aload_n 0, 61, 0, 0), (61, .getfield 116, 64, 11, 48), (64, .aload_n 0, 65, 0, 0), (65, .getfield 308, 68, 11, 49), (68, .bipush 6, 70, 0, 0), (70, .iastore, 71, 0, 0), (71, .aload_n 0, 72, 0, 0), (72, .dup, 73, 0, 0),
  (73, .getfield 308, 76, 11, 49), (76, .iconst 1, 77, 0, 0), (77, .iadd, 78, 0, 0), (78, .putfield 308, 81, 11, 392), (81, .goto (-58), 84, 23, 0), (84, .aload_n 0, 85, 0, 0), (85, .invokevirtual 314, 88, 214, 0), (88, .aload_n 0, 89, 0, 0),
  (89, .getfield 218, 92, 11, 13), (92, .ifCond .le 4, 95, 96, 0), (95, .return_, 96, 0, 0), (96, .aload_n 0, 97, 0, 0), (97, .bipush 7, 99, 0, 0), (99, .invokevirtual 236, 102, 201, 1), (102, .ifCond .eq 43, 105, 145, 0), (105, .aload_n 0, 106, 0, 0),
  (106, .getfield 245, 109, 11, 12), (109, .iload_n 1, 110, 1, 0), (110, .if_icmp .le 35, 113, 145, 0), (113, .aload_n 0, 114, 0, 0), (114, .iconst 0, 115, 0, 0), (115, .invokevirtual 317, 118, 216, 1), (118, .aload_n 0, 119, 0, 0), (119, .dup, 120, 0, 0),
  (120, .getfield 308, 123, 11, 49), (123, .iconst 1, 124, 0, 0), (124, .isub, 125, 0, 0), (125, .putfield 308, 128, 11, 392), (128, .aload_n 0, 129, 0, 0), (129, .dup, 130, 0, 0), (130, .getfield 245, 133, 11, 12), (133, .iconst 1, 134, 0, 0),
  (134, .isub, 135, 0, 0), (135, .putfield 245, 138, 11, 96), (138, .aload_n 0, 139, 0, 0), (139, .invokevirtual 239, 142, 205, 0), (142, .goto (-46), 145, 96, 0), (145, .aload_n 0, 146, 0, 0), (146, .bipush 8, 148, 0, 0), (148, .invokevirtual 236, 151, 201, 1),
  (151, .ifCond .ne 30, 154, 181, 0), (154, .aload_n 0, 155, 0, 0), (155, .bipush 9, 157, 0, 0), (157, .invokevirtual 236, 160, 201, 1), (160, .ifCond .ne 21, 163, 181, 0), (163, .aload_n 0, 164, 0, 0), (164, .bipush 10, 166, 0, 0), (166, .invokevirtual 236, 169, 201, 1),
  (169, .ifCond .ne 12, 172, 181, 0), (172, .aload_n 0, 173, 0, 0), (173, .bipush 15, 175, 0, 0), (175, .invokevirtual 236, 178, 201, 1), (178, .ifCond .eq 7, 181, 185, 0), (181, .iconst 1, 182, 0, 0), (182, .goto 4, 185, 186, 0), (185, .iconst 0, 186, 0, 0),
  (186, .istore_n 2, 187, 2, 0), (187, .iload_n 2, 188, 2, 0), (188, .ifCond .ne 22, 191, 210, 0), (191, .aload_n 0, 192, 0, 0), (192, .getfield 245, 195, 11, 12), (195, .iload_n 1, 196, 1, 0), (196, .if_icmp .le 8, 199, 204, 0), (199, .aload_n 0, 200, 0, 0),
  (200, .iconst 1, 201, 0, 0), (201, .invokevirtual 233, 204, 203, 1), (204, .aload_n 0, 205, 0, 0), (205, .iconst 0, 206, 0, 0), (206, .invokevirtual 317, 209, 216, 1), (209, .return_, 210, 0, 0), (210, .aload_n 0, 211, 0, 0), (211, .aload_n 0, 212, 0, 0),
  (212, .bipush 10, 214, 0, 0), (214, .invokevirtual 236, 217, 201, 1), (217, .ifCond .ne 12, 220, 229, 0), (220, .aload_n 0, 221, 0, 0), (221, .bipush 15, 223, 0, 0), (223, .invokevirtual 236, 226, 201, 1), (226, .ifCond .eq 7, 229, 233, 0), (229, .iconst 1, 230, 0, 0),
  (230, .goto 4, 233, 234, 0), (233, .iconst 0, 234, 0, 0), (234, .invokevirtual 317, 237, 216, 1), (237, .aload_n 0, 238, 0, 0), (238, .getfield 116, 241, 11, 48), (241, .aload_n 0, 242, 0, 0), (242, .getfield 308, 245, 11, 49), (245, .aload_n 0, 246, 0, 0),
  (246, .getfield 20, 249, 11, 5), (249, .aload_n 0, 250, 0, 0), (250, .getfield 221, 253, 11, 11), (253, .iaload, 254, 0, 0), (254, .iastore, 255, 0, 0), (255, .aload_n 0, 256, 0, 0), (256, .dup, 257, 0, 0), (257, .getfield 308, 260, 11, 49),
  (260, .iconst 1, 261, 0, 0), (261, .iadd, 262, 0, 0), (262, .putfield 308, 265, 11, 392), (265, .aload_n 0, 266, 0, 0), (266, .invokevirtual 239, 269, 205, 0), (269, .goto (-257), 272, 12, 0), (272, .return_, 273, 0, 0)]
set_option maxRecDepth 20000 in
/-- 214: StoneHomeModel.unit()V -/
def at_X11_unit : List (Nat × am_I) := [(0, .aload_n 0, 1, 0, 0), (1, .iconst 2, 2, 0, 0), (2, .invokevirtual 236, 5, 201, 1), (5, .ifCond .eq 24, 8, 29, 0), (8, .aload_n 0, 9, 0, 0), (9, .iconst 0, 10, 0, 0), (10, .aload_n 0, 11, 0, 0), (11, .getfield 27, 14, 11, 7),
  (14, .aload_n 0, 15, 0, 0), (15, .getfield 221, 18, 11, 11), (18, .iaload, 19, 0, 0), (19, .invokevirtual 311, 22, 215, 2), (22, .aload_n 0, 23, 0, 0), (23, .invokevirtual 239, 26, 205, 0), (26, .goto 67, 29, 93, 0), (29, .aload_n 0, 30, 0, 0),
  (30, .getfield 218, 33, 11, 13), (33, .ifCond .ne 55, 36, 88, 0), (36, .aload_n 0, 37, 0, 0), (37, .getfield 20, 40, 11, 5), (40, .aload_n 0, 41, 0, 0), (41, .getfield 221, 44, 11, 11), (44, .iaload, 45, 0, 0), (45, .bipush 36, 47, 0, 0),
  (47, .if_icmp .lt 41, 50, 88, 0), (50, .aload_n 0, 51, 0, 0), (51, .getfield 20, 54, 11, 5), (54, .aload_n 0, 55, 0, 0), (55, .getfield 221, 58, 11, 11), (58, .iaload, 59, 0, 0), (59, .bipush 42, 61, 0, 0), (61, .if_icmp .gt 27, 64, 88, 0),
  (64, .aload_n 0, 65, 0, 0), (65, .iconst 1, 66, 0, 0), (66, .aload_n 0, 67, 0, 0), (67, .getfield 20, 70, 11, 5), (70, .aload_n 0, 71, 0, 0), (71, .getfield 221, 74, 11, 11), (74, .iaload, 75, 0, 0), (75, .bipush 36, 77, 0, 0),
  (77, .isub, 78, 0, 0), (78, .invokevirtual 311, 81, 215, 2), (81, .aload_n 0, 82, 0, 0), (82, .invokevirtual 239, 85, 205, 0), (85, .goto 8, 88, 93, 0), (88, .aload_n 0, 89, 0, 0), (89, .iconst 1, 90, 0, 0), (90, .invokevirtual 233, 93, 203, 1),
  (93, .return_, 94, 0, 0)]
set_option maxRecDepth 20000 in
/-- 215: StoneHomeModel.emit(II)V -/
def at_X11_emit : List (Nat × am_I) := [(0, .aload_n 0, 1, 0, 0), (1, .getfield 110, 4, 11, 46), (4, .aload_n 0, 5, 0, 0), (5, .getfield 260, 8, 11, 45), (8, .iload_n 1, 9, 1, 0), (9, .iastore, 10, 0, 0), (10, .aload_n 0, 11, 0, 0), (11, .getfield 113, 14, 11, 47),
  (14, .aload_n 0, 15, 0, 0), (15, .getfield 260, 18, 11, 45), (18, .iload_n 2, 19, 2, 0), (19, .iastore, 20, 0, 0), (20, .aload_n 0, 21, 0, 0), (21, .dup, 22, 0, 0), (22, .getfield 260, 25, 11, 45), (25, .iconst 1, 26, 0, 0),
  (26, .iadd, 27, 0, 0), (27, .putfield 260, 30, 11, 360), (30, .return_, 31, 0, 0)]
set_option maxRecDepth 20000 in
/-- 216: StoneHomeModel.comesOut(Z)V -/
def at_X11_comesOut : List (Nat × am_I) := [(0, .aload_n 0, 1, 0, 0), (1, .getfield 308, 4, 11, 49), (4, .ifCond .le 87, 7, 91, 0), (7, .aload_n 0, 8, 0, 0), (8, .getfield 116, 11, 11, 48), (11, .aload_n 0, 12, 0, 0), (12, .getfield 308, 15, 11, 49), (15, .iconst 1, 16, 0, 0),
  (16, .isub, 17, 0, 0), (17, .iaload, 18, 0, 0), (18, .istore_n 2, 19, 2, 0), (19, .iload_n 2, 20, 2, 0), (20, .bipush 6, 22, 0, 0), (22, .if_icmp .eq 19, 25, 41, 0), (25, .iload_n 1, 26, 1, 0), (26, .ifCond .eq 16, 29, 42, 0),
  (29, .iload_n 2, 30, 2, 0), (30, .bipush 8, 32, 0, 0), (32, .if_icmp .eq 9, 35, 41, 0), (35, .iload_n 2, 36, 2, 0), (36, .bipush 9, 38, 0, 0), (38, .if_icmp .ne 4, 41, 42, 0), (41, .return_, 42, 0, 0), (42, .aload_n 0, 43, 0, 0),
  (43, .dup, 44, 0, 0), (44, .getfield 308, 47, 11, 49), (47, .iconst 1, 48, 0, 0), (48, .isub, 49, 0, 0), (49, .putfield 308, 52, 11, 392), (52, .aload_n 0, 53, 0, 0), (53, .iload_n 2, 54, 2, 0), (54, .bipush 8, 56, 0, 0),
  (56, .if_icmp .ne 7, 59, 63, 0), (59, .iconst 2, 60, 0, 0), (60, .goto 24, 63, 84, 0), (63, .iload_n 2, 64, 2, 0), (64, .bipush 9, 66, 0, 0), (66, .if_icmp .ne 7, 69, 73, 0), (69, .iconst 3, 70, 0, 0), (70, .goto 14, 73, 84, 0),
  (73, .iload_n 2, 74, 2, 0), (74, .bipush 10, 76, 0, 0), (76, .if_icmp .ne 7, 79, 83, 0), (79, .iconst 4, 80, 0, 0), (80, .goto 4, 83, 84, 0), (83, .iconst 5, 84, 0, 0), (84, .iconst 0, 85, 0, 0), (85, .invokevirtual 311, 88, 215, 2),
  (88, .goto (-88), 91, 0, 0), (91, .return_, 92, 0, 0)]
set_option maxRecDepth 20000 in
/-- 217: StoneHomeModel.term()V -/
def at_X11_term : List (Nat × am_I) := [(0, .aload_n 0, 1, 0, 0), (1, .getfield 104, 4, 11, 43), (4, .aload_n 0, 5, 0, 0), (5, .getfield 257, 8, 11, 39), (8, .aload_n 0, 9, 0, 0), (9, .getfield 260, 12, 11, 45), (12, .iastore, 13, 0, 0), (13, .aload_n 0, 14, 0, 0),
  (14, .getfield 218, 17, 11, 13), (17, .ifCond .ne 7, 20, 24, 0), (20, .aload_n 0, 21, 0, 0), (21, .invokevirtual 302, 24, 213, 0), (24, .aload_n 0, 25, 0, 0), (25, .getfield 107, 28, 11, 44), (28, .aload_n 0, 29, 0, 0), (29, .getfield 257, 32, 11, 39),
  (32, .aload_n 0, 33, 0, 0), (33, .getfield 260, 36, 11, 45), (36, .iastore, 37, 0, 0), (37, .aload_n 0, 38, 0, 0), (38, .dup, 39, 0, 0), (39, .getfield 257, 42, 11, 39), (42, .iconst 1, 43, 0, 0), (43, .iadd, 44, 0, 0),
  (44, .putfield 257, 47, 11, 312), (47, .return_, 48, 0, 0)]
set_option maxRecDepth 20000 in
/-- 218: StoneHomeModel.isThere([I)Z -/
def at_X11_isThere : List (Nat × am_I) := [(0, .aload_n 1, 1, 1, 0), (1, .iconst 3, 2, 0, 0), (2, .aload_n 0, 3, 0, 0), (3, .getfield 251, 6, 11, 19), (6, .imul, 7, 0, 0), (7, .iaload, 8, 0, 0), (8, .istore_n 2, 9, 2, 0), (9, .aload_n 1, 10, 1, 0),
  (10, .iconst 3, 11, 0, 0), (11, .aload_n 0, 12, 0, 0), (12, .getfield 251, 15, 11, 19), (15, .imul, 16, 0, 0), (16, .iconst 1, 17, 0, 0), (17, .iadd, 18, 0, 0), (18, .iaload, 19, 0, 0), (19, .istore_n 3, 20, 3, 0),
  (20, .iload_n 2, 21, 2, 0), (21, .aload_n 0, 22, 0, 0), (22, .getfield 46, 25, 11, 23), (25, .aload_n 0, 26, 0, 0), (26, .getfield 251, 29, 11, 19), (29, .iaload, 30, 0, 0), (30, .if_icmp .ge 38, 33, 68, 0), (33, .iload_n 3, 34, 3, 0),
  (34, .aload_n 0, 35, 0, 0), (35, .getfield 43, 38, 11, 22), (38, .aload_n 0, 39, 0, 0), (39, .getfield 251, 42, 11, 19), (42, .iaload, 43, 0, 0), (43, .if_icmp .ge 25, 46, 68, 0), (46, .aload_n 1, 47, 1, 0), (47, .iconst 3, 48, 0, 0),
  (48, .aload_n 0, 49, 0, 0), (49, .getfield 251, 52, 11, 19), (52, .imul, 53, 0, 0), (53, .iconst 2, 54, 0, 0), (54, .iadd, 55, 0, 0), (55, .iaload, 56, 0, 0), (56, .aload_n 0, 57, 0, 0), (57, .getfield 52, 60, 11, 25),
  (60, .aload_n 0, 61, 0, 0), (61, .getfield 251, 64, 11, 19), (64, .iaload, 65, 0, 0), (65, .if_icmp .lt 5, 68, 70, 0), (68, .iconst 0, 69, 0, 0), (69, .ireturn, 70, 0, 0), (70, .aload_n 0, 71, 0, 0), (71, .getfield 49, 74, 11, 24),
  (74, .bipush 32, 76, 0, 0), (76, .aload_n 0, 77, 0, 0), (77, .getfield 251, 80, 11, 19), (80, .imul, 81, 0, 0), (81, .bipush 8, 83, 0, 0), (83, .iload_n 3, 84, 3, 0), (84, .imul, 85, 0, 0), (85, .iadd, 86, 0, 0),
  (86, .iload_n 2, 87, 2, 0), (87, .iadd, 88, 0, 0), (88, .iaload, 89, 0, 0), (89, .istore 4, 91, 4, 0), (91, .iload 4, 93, 4, 0), (93, .iconst 4, 94, 0, 0), (94, .if_icmp .eq 13, 97, 107, 0), (97, .iload 4, 99, 4, 0),
  (99, .iconst 5, 100, 0, 0), (100, .if_icmp .eq 7, 103, 107, 0), (103, .iconst 1, 104, 0, 0), (104, .goto 4, 107, 108, 0), (107, .iconst 0, 108, 0, 0), (108, .ireturn, 109, 0, 0)]
set_option maxRecDepth 20000 in
/-- 219: StoneHomeModel.place()I -/
def at_X11_place : List (Nat × am_I) := [(0, .aload_n 0, 1, 0, 0), (1, .getfield 37, 4, 11, 17), (4, .ireturn, 5, 0, 0)]
set_option maxRecDepth 20000 in
/-- 220: StoneHomeModel.now(I)I -/
def at_X11_now : List (Nat × am_I) := [(0, .iload_n 1, 1, 1, 0), (1, .tableswitch 113 0 8 #[51, 51, 74, 74, 74, 74, 74, 81, 74], 52, 114, 0), (52, .aload_n 0, 53, 0, 0), (53, .getfield 125, 56, 11, 53), (56, .bipush 7, 58, 0, 0), (58, .iaload, 59, 0, 0), (59, .iconst 1, 60, 0, 0), (60, .if_icmp .ne 8, 63, 68, 0),
  (63, .bipush (-2), 65, 0, 0), (65, .goto 9, 68, 74, 0), (68, .aload_n 0, 69, 0, 0), (69, .getfield 125, 72, 11, 53), (72, .iload_n 1, 73, 1, 0), (73, .iaload, 74, 0, 0), (74, .ireturn, 75, 0, 0), (75, .aload_n 0, 76, 0, 0),
  (76, .getfield 125, 79, 11, 53), (79, .iload_n 1, 80, 1, 0), (80, .iaload, 81, 0, 0), (81, .ireturn, 82, 0, 0), (82, .aload_n 0, 83, 0, 0), (83, .getfield 125, 86, 11, 53), (86, .bipush 7, 88, 0, 0), (88, .iaload, 89, 0, 0),
  (89, .iconst 1, 90, 0, 0), (90, .if_icmp .ne 7, 93, 97, 0), (93, .iconst 2, 94, 0, 0), (94, .goto 19, 97, 113, 0), (97, .aload_n 0, 98, 0, 0), (98, .aload_n 0, 99, 0, 0), (99, .invokevirtual 399, 102, 221, 0), (102, .invokevirtual 385, 105, 223, 1),
  (105, .ifCond .eq 7, 108, 112, 0), (108, .iconst 1, 109, 0, 0), (109, .goto 4, 112, 113, 0), (112, .iconst 0, 113, 0, 0), (113, .ireturn, 114, 0, 0), (114, .iconst (-1), 115, 0, 0), (115, .ireturn, 116, 0, 0)]
set_option maxRecDepth 20000 in
/-- 221: StoneHomeModel.stateNow()I -/
def at_X11_stateNow : List (Nat × am_I) := [(0, .aload_n 0, 1, 0, 0), (1, .getfield 125, 4, 11, 53), (4, .bipush 7, 6, 0, 0), (6, .iaload, 7, 0, 0), (7, .iconst 1, 8, 0, 0), (8, .if_icmp .ne 9, 11, 17, 0), (11, .sipush 384, 14, 0, 0), (14, .goto 30, 17, 44, 0),
  (17, .aload_n 0, 18, 0, 0), (18, .getfield 125, 21, 11, 53), (21, .iconst 0, 22, 0, 0), (22, .iaload, 23, 0, 0), (23, .aload_n 0, 24, 0, 0), (24, .getfield 125, 27, 11, 53), (27, .iconst 1, 28, 0, 0), (28, .iaload, 29, 0, 0),
  (29, .aload_n 0, 30, 0, 0), (30, .getfield 125, 33, 11, 53), (33, .iconst 2, 34, 0, 0), (34, .iaload, 35, 0, 0), (35, .aload_n 0, 36, 0, 0), (36, .getfield 125, 39, 11, 53), (39, .iconst 3, 40, 0, 0), (40, .iaload, 41, 0, 0),
  (41, .invokestatic 337, 44, 222, 4), (44, .ireturn, 45, 0, 0)]
set_option maxRecDepth 20000 in
/-- 222: StoneHomeModel.numberOf(IIII)I -/
def at_X11_numberOf : List (Nat × am_I) := [(0, .bipush 8, 2, 0, 0), (2, .iload_n 1, 3, 1, 0), (3, .imul, 4, 0, 0), (4, .iload_n 0, 5, 0, 0), (5, .iadd, 6, 0, 0), (6, .iconst 3, 7, 0, 0), (7, .imul, 8, 0, 0), (8, .iload_n 2, 9, 2, 0),
  (9, .iadd, 10, 0, 0), (10, .iconst 4, 11, 0, 0), (11, .imul, 12, 0, 0), (12, .iload_n 3, 13, 3, 0), (13, .iadd, 14, 0, 0), (14, .ireturn, 15, 0, 0)]
set_option maxRecDepth 20000 in
/-- 223: StoneHomeModel.isHome(I)Z -/
def at_X11_isHome : List (Nat × am_I) := [(0, .iload_n 1, 1, 1, 0), (1, .sipush 384, 4, 0, 0), (4, .if_icmp .eq 17, 7, 21, 0), (7, .aload_n 0, 8, 0, 0), (8, .iload_n 1, 9, 1, 0), (9, .invokevirtual 334, 12, 224, 1), (12, .bipush 6, 14, 0, 0), (14, .if_icmp .ne 7, 17, 21, 0),
  (17, .iconst 1, 18, 0, 0), (18, .goto 4, 21, 22, 0), (21, .iconst 0, 22, 0, 0), (22, .ireturn, 23, 0, 0)]
set_option maxRecDepth 20000 in
/-- 224: StoneHomeModel.sortOf(I)I -/
def at_X11_sortOf : List (Nat × am_I) := [(0, .aload_n 0, 1, 0, 0), (1, .iload_n 1, 2, 1, 0), (2, .invokestatic 325, 5, 225, 1), (5, .iload_n 1, 6, 1, 0), (6, .invokestatic 328, 9, 226, 1), (9, .invokevirtual 331, 12, 227, 2), (12, .ireturn, 13, 0, 0)]
set_option maxRecDepth 20000 in
/-- 225: StoneHomeModel.alongOf(I)I -/
def at_X11_alongOf : List (Nat × am_I) := [(0, .iload_n 0, 1, 0, 0), (1, .bipush 12, 3, 0, 0), (3, .idiv, 4, 0, 0), (4, .bipush 8, 6, 0, 0), (6, .irem, 7, 0, 0), (7, .ireturn, 8, 0, 0)]
set_option maxRecDepth 20000 in
/-- 226: StoneHomeModel.acrossOf(I)I -/
def at_X11_acrossOf : List (Nat × am_I) := [(0, .iload_n 0, 1, 0, 0), (1, .bipush 96, 3, 0, 0), (3, .idiv, 4, 0, 0), (4, .ireturn, 5, 0, 0)]
set_option maxRecDepth 20000 in
/-- 227: StoneHomeModel.sortAt(II)I -/
def at_X11_sortAt : List (Nat × am_I) := [(0, .aload_n 0, 1, 0, 0), (1, .getfield 49, 4, 11, 24), (4, .bipush 32, 6, 0, 0), (6, .aload_n 0, 7, 0, 0), (7, .getfield 248, 10, 11, 18), (10, .imul, 11, 0, 0), (11, .bipush 8, 13, 0, 0), (13, .iload_n 2, 14, 2, 0),
  (14, .imul, 15, 0, 0), (15, .iadd, 16, 0, 0), (16, .iload_n 1, 17, 1, 0), (17, .iadd, 18, 0, 0), (18, .iaload, 19, 0, 0), (19, .ireturn, 20, 0, 0)]
set_option maxRecDepth 20000 in
/-- 228: StoneHomeModel.square(II)I -/
def at_X11_square : List (Nat × am_I) := [(0, .aload_n 0, 1, 0, 0), (1, .iload_n 1, 2, 1, 0), (2, .iload_n 2, 3, 2, 0), (3, .invokevirtual 403, 6, 229, 2), (6, .ifCond .eq 12, 9, 18, 0), (9, .aload_n 0, 10, 0, 0), (10, .iload_n 1, 11, 1, 0), (11, .iload_n 2, 12, 2, 0),
  (12, .invokevirtual 331, 15, 227, 2), (15, .goto 4, 18, 19, 0), (18, .iconst (-1), 19, 0, 0), (19, .ireturn, 20, 0, 0)]
set_option maxRecDepth 20000 in
/-- 229: StoneHomeModel.isPlace(II)Z -/
def at_X11_isPlace : List (Nat × am_I) := [(0, .iload_n 1, 1, 1, 0), (1, .iconst 0, 2, 0, 0), (2, .aload_n 0, 3, 0, 0), (3, .getfield 46, 6, 11, 23), (6, .aload_n 0, 7, 0, 0), (7, .getfield 248, 10, 11, 18), (10, .iaload, 11, 0, 0), (11, .iconst 1, 12, 0, 0),
  (12, .isub, 13, 0, 0), (13, .invokestatic 353, 16, 230, 3), (16, .ifCond .eq 26, 19, 42, 0), (19, .iload_n 2, 20, 2, 0), (20, .iconst 0, 21, 0, 0), (21, .aload_n 0, 22, 0, 0), (22, .getfield 43, 25, 11, 22), (25, .aload_n 0, 26, 0, 0),
  (26, .getfield 248, 29, 11, 18), (29, .iaload, 30, 0, 0), (30, .iconst 1, 31, 0, 0), (31, .isub, 32, 0, 0), (32, .invokestatic 353, 35, 230, 3), (35, .ifCond .eq 7, 38, 42, 0), (38, .iconst 1, 39, 0, 0), (39, .goto 4, 42, 43, 0),
  (42, .iconst 0, 43, 0, 0), (43, .ireturn, 44, 0, 0)]
set_option maxRecDepth 20000 in
/-- 230: StoneHomeModel.in(III)Z -/
def at_X11_in : List (Nat × am_I) := [(0, .iload_n 0, 1, 0, 0), (1, .iload_n 1, 2, 1, 0), (2, .if_icmp .lt 12, 5, 14, 0), (5, .iload_n 0, 6, 0, 0), (6, .iload_n 2, 7, 2, 0), (7, .if_icmp .gt 7, 10, 14, 0), (10, .iconst 1, 11, 0, 0), (11, .goto 4, 14, 15, 0),
  (14, .iconst 0, 15, 0, 0), (15, .ireturn, 16, 0, 0)]
set_option maxRecDepth 20000 in
/-- 231: StoneHomeModel.cars(III)I -/
def at_X11_cars : List (Nat × am_I) := [(0, .aload_n 0, 1, 0, 0), (1, .iload_n 1, 2, 1, 0), (2, .iload_n 2, 3, 2, 0), (3, .invokevirtual 403, 6, 229, 2), (6, .ifCond .eq 14, 9, 20, 0), (9, .iload_n 3, 10, 3, 0), (10, .iconst 0, 11, 0, 0), (11, .sipush 9999, 14, 0, 0),
  (14, .invokestatic 353, 17, 230, 3), (17, .ifCond .ne 5, 20, 22, 0), (20, .iconst (-1), 21, 0, 0), (21, .ireturn, 22, 0, 0), (22, .aload_n 0, 23, 0, 0), (23, .iload_n 1, 24, 1, 0), (24, .iload_n 2, 25, 2, 0), (25, .iload_n 3, 26, 3, 0),
  (26, .invokevirtual 363, 29, 232, 3), (29, .ifCond .eq 7, 32, 36, 0), (32, .iconst 1, 33, 0, 0), (33, .goto 4, 36, 37, 0), (36, .iconst 0, 37, 0, 0), (37, .ireturn, 38, 0, 0)]
set_option maxRecDepth 20000 in
/-- 232: StoneHomeModel.isBarred(III)Z -/
def at_X11_isBarred : List (Nat × am_I) := [(0, .aload_n 0, 1, 0, 0), (1, .getfield 119, 4, 11, 50), (4, .iconst 0, 5, 0, 0), (5, .iload_n 1, 6, 1, 0), (6, .iastore, 7, 0, 0), (7, .aload_n 0, 8, 0, 0), (8, .getfield 119, 11, 11, 50), (11, .iconst 1, 12, 0, 0),
  (12, .iload_n 2, 13, 2, 0), (13, .iastore, 14, 0, 0), (14, .aload_n 0, 15, 0, 0), (15, .getfield 119, 18, 11, 50), (18, .iconst 2, 19, 0, 0), (19, .iconst 0, 20, 0, 0), (20, .iastore, 21, 0, 0), (21, .aload_n 0, 22, 0, 0),
  (22, .getfield 119, 25, 11, 50), (25, .iconst 3, 26, 0, 0), (26, .aload_n 0, 27, 0, 0), (27, .iload_n 1, 28, 1, 0), (28, .iload_n 2, 29, 2, 0), (29, .invokevirtual 331, 32, 227, 2), (32, .iastore, 33, 0, 0), (33, .aload_n 0, 34, 0, 0),
  (34, .getfield 119, 37, 11, 50), (37, .iconst 4, 38, 0, 0), (38, .iconst (-1), 39, 0, 0), (39, .iastore, 40, 0, 0), (40, .aload_n 0, 41, 0, 0), (41, .getfield 119, 44, 11, 50), (44, .iconst 5, 45, 0, 0), (45, .iconst 0, 46, 0, 0),
  (46, .iastore, 47, 0, 0), (47, .aload_n 0, 48, 0, 0), (48, .getfield 119, 51, 11, 50), (51, .bipush 6, 53, 0, 0), (53, .iload_n 3, 54, 3, 0), (54, .iastore, 55, 0, 0), (55, .aload_n 0, 56, 0, 0), (56, .iconst 2, 57, 0, 0),
  (57, .invokevirtual 344, 60, 233, 1), (60, .ifCond .le 7, 63, 67, 0), (63, .iconst 1, 64, 0, 0), (64, .goto 4, 67, 68, 0), (67, .iconst 0, 68, 0, 0), (68, .ireturn, 69, 0, 0)]
set_option maxRecDepth 20000 in
/-- 233: StoneHomeModel.asks(I)I -/
def at_X11_asks : List (Nat × am_I) := [(0, .iconst 3, 1, 0, 0), (1, .aload_n 0, 2, 0, 0), (2, .getfield 248, 5, 11, 18), (5, .imul, 6, 0, 0), (6, .iload_n 1, 7, 1, 0), (7, .iadd, 8, 0, 0), (8, .istore_n 2, 9, 2, 0), (9, .aload_n 0, 10, 0, 0),
  (10, .iconst 0, 11, 0, 0), (11, .putfield 321, 14, 11, 417), (14, .aload_n 0, 15, 0, 0), (15, .getfield 88, 18, 11, 37), (18, .iload_n 2, 19, 2, 0), (19, .iaload, 20, 0, 0), (20, .istore_n 3, 21, 3, 0), (21, .iload_n 3, 22, 3, 0),
  (22, .aload_n 0, 23, 0, 0), (23, .getfield 91, 26, 11, 38), (26, .iload_n 2, 27, 2, 0), (27, .iaload, 28, 0, 0), (28, .if_icmp .ge 105, 31, 133, 0), (31, .aload_n 0, 32, 0, 0), (32, .getfield 94, 35, 11, 40), (35, .iload_n 3, 36, 3, 0),
  (36, .baload, 37, 2, 0), (37, .ifCond .eq 58, 40, 95, 0), (40, .aload_n 0, 41, 0, 0), (41, .aload_n 0, 42, 0, 0), (42, .getfield 98, 45, 11, 41), (45, .iload_n 3, 46, 3, 0), (46, .iaload, 47, 0, 0), (47, .aload_n 0, 48, 0, 0),
  (48, .getfield 101, 51, 11, 42), (51, .iload_n 3, 52, 3, 0), (52, .iaload, 53, 0, 0), (53, .invokevirtual 341, 56, 234, 2), (56, .istore 4, 58, 4, 0), (58, .aload_n 0, 59, 0, 0), (59, .aload_n 0, 60, 0, 0), (60, .getfield 101, 63, 11, 42),
  (63, .iload_n 3, 64, 3, 0), (64, .iaload, 65, 0, 0), (65, .aload_n 0, 66, 0, 0), (66, .getfield 104, 69, 11, 43), (69, .iload_n 3, 70, 3, 0), (70, .iaload, 71, 0, 0), (71, .invokevirtual 341, 74, 234, 2), (74, .istore 5, 76, 5, 0),
  (76, .aload_n 0, 77, 0, 0), (77, .getfield 321, 80, 11, 52), (80, .ifCond .eq 5, 83, 85, 0), (83, .iconst 0, 84, 0, 0), (84, .ireturn, 85, 0, 0), (85, .iload 4, 87, 4, 0), (87, .iload 5, 89, 5, 0), (89, .if_icmp .lt 6, 92, 95, 0),
  (92, .goto 35, 95, 127, 0), (95, .aload_n 0, 96, 0, 0), (96, .aload_n 0, 97, 0, 0), (97, .getfield 104, 100, 11, 43), (100, .iload_n 3, 101, 3, 0), (101, .iaload, 102, 0, 0), (102, .aload_n 0, 103, 0, 0), (103, .getfield 107, 106, 11, 44),
  (106, .iload_n 3, 107, 3, 0), (107, .iaload, 108, 0, 0), (108, .invokevirtual 341, 111, 234, 2), (111, .istore 4, 113, 4, 0), (113, .aload_n 0, 114, 0, 0), (114, .getfield 321, 117, 11, 52), (117, .ifCond .eq 7, 120, 124, 0), (120, .iconst 0, 121, 0, 0),
  (121, .goto 5, 124, 126, 0), (124, .iload 4, 126, 4, 0), (126, .ireturn, 127, 0, 0), (127, .iinc 3 1, 130, 3, 0), (130, .goto (-109), 133, 21, 0), (133, .iconst 0, 134, 0, 0), (134, .ireturn, 135, 0, 0)]
set_option maxRecDepth 20000 in
/-- 234: StoneHomeModel.termOf(II)I -/
def at_X11_termOf : List (Nat × am_I) := [(0, .iconst 0, 1, 0, 0), (1, .istore_n 3, 2, 3, 0), (2, .iload_n 1, 3, 1, 0), (3, .istore 4, 5, 4, 0), (5, .iload 4, 7, 4, 0), (7, .iload_n 2, 8, 2, 0), (8, .if_icmp .ge 157, 11, 165, 0), (11, .aload_n 0, 12, 0, 0),
  (12, .getfield 110, 15, 11, 46), (15, .iload 4, 17, 4, 0), (17, .iaload, 18, 0, 0), (18, .istore 5, 20, 5, 0), (20, .iload 5, 22, 5, 0), (22, .iconst 2, 23, 0, 0), (23, .if_icmp .ge 42, 26, 65, 0), (26, .aload_n 0, 27, 0, 0),
  (27, .getfield 122, 30, 11, 51), (30, .iload_n 3, 31, 3, 0), (31, .iload 5, 33, 5, 0), (33, .ifCond .ne 13, 36, 46, 0), (36, .aload_n 0, 37, 0, 0), (37, .getfield 113, 40, 11, 47), (40, .iload 4, 42, 4, 0), (42, .iaload, 43, 0, 0),
  (43, .goto 15, 46, 58, 0), (46, .aload_n 0, 47, 0, 0), (47, .getfield 119, 50, 11, 50), (50, .aload_n 0, 51, 0, 0), (51, .getfield 113, 54, 11, 47), (54, .iload 4, 56, 4, 0), (56, .iaload, 57, 0, 0), (57, .iaload, 58, 0, 0),
  (58, .iastore, 59, 0, 0), (59, .iinc 3 1, 62, 3, 0), (62, .goto 97, 65, 159, 0), (65, .iinc 3 (-1), 68, 3, 0), (68, .aload_n 0, 69, 0, 0), (69, .getfield 122, 72, 11, 51), (72, .iload_n 3, 73, 3, 0), (73, .iconst 1, 74, 0, 0),
  (74, .isub, 75, 0, 0), (75, .iaload, 76, 0, 0), (76, .istore 6, 78, 6, 0), (78, .aload_n 0, 79, 0, 0), (79, .getfield 122, 82, 11, 51), (82, .iload_n 3, 83, 3, 0), (83, .iaload, 84, 0, 0), (84, .istore 7, 86, 7, 0),
  (86, .iload 5, 88, 5, 0), (88, .iconst 5, 89, 0, 0), (89, .if_icmp .ne 15, 92, 104, 0), (92, .iload 7, 94, 7, 0), (94, .ifCond .ne 10, 97, 104, 0), (97, .aload_n 0, 98, 0, 0), (98, .iconst 1, 99, 0, 0), (99, .putfield 321, 102, 11, 417),
  (102, .iconst 0, 103, 0, 0), (103, .ireturn, 104, 0, 0), (104, .aload_n 0, 105, 0, 0), (105, .getfield 122, 108, 11, 51), (108, .iload_n 3, 109, 3, 0), (109, .iconst 1, 110, 0, 0), (110, .isub, 111, 0, 0), (111, .iload 5, 113, 5, 0),
  (113, .iconst 2, 114, 0, 0), (114, .if_icmp .ne 11, 117, 125, 0), (117, .iload 6, 119, 6, 0), (119, .iload 7, 121, 7, 0), (121, .iadd, 122, 0, 0), (122, .goto 36, 125, 158, 0), (125, .iload 5, 127, 5, 0), (127, .iconst 3, 128, 0, 0),
  (128, .if_icmp .ne 11, 131, 139, 0), (131, .iload 6, 133, 6, 0), (133, .iload 7, 135, 7, 0), (135, .isub, 136, 0, 0), (136, .goto 22, 139, 158, 0), (139, .iload 5, 141, 5, 0), (141, .iconst 4, 142, 0, 0), (142, .if_icmp .ne 11, 145, 153, 0),
  (145, .iload 6, 147, 6, 0), (147, .iload 7, 149, 7, 0), (149, .imul, 150, 0, 0), (150, .goto 8, 153, 158, 0), (153, .iload 6, 155, 6, 0), (155, .iload 7, 157, 7, 0), (157, .idiv, 158, 0, 0), (158, .iastore, 159, 0, 0),
  (159, .iinc 4 1, 162, 4, 0), (162, .goto (-157), 165, 5, 0), (165, .aload_n 0, 166, 0, 0), (166, .getfield 122, 169, 11, 51), (169, .iconst 0, 170, 0, 0), (170, .iaload, 171, 0, 0), (171, .ireturn, 172, 0, 0)]
set_option maxRecDepth 20000 in
/-- 235: StoneHomeModel.kick(I)I -/
def at_X11_kick : List (Nat × am_I) := [(0, .iload_n 1, 1, 1, 0), (1, .iconst 0, 2, 0, 0), (2, .aload_n 0, 3, 0, 0), (3, .getfield 55, 6, 11, 26), (6, .aload_n 0, 7, 0, 0), (7, .getfield 248, 10, 11, 18), (10, .iaload, 11, 0, 0), (11, .iconst 1, 12, 0, 0),
  (12, .isub, 13, 0, 0), (13, .invokestatic 353, 16, 230, 3), (16, .ifCond .ne 5, 19, 21, 0), (19, .iconst (-1), 20, 0, 0), (20, .ireturn, 21, 0, 0), (21, .aload_n 0, 22, 0, 0), (22, .invokevirtual 413, 25, 236, 0), (25, .ifCond .ne 15, 28, 40, 0),
  (28, .aload_n 0, 29, 0, 0), (29, .aload_n 0, 30, 0, 0), (30, .invokevirtual 399, 33, 221, 0), (33, .iload_n 1, 34, 1, 0), (34, .invokevirtual 372, 37, 237, 2), (37, .ifCond .ne 6, 40, 43, 0), (40, .bipush (-2), 42, 0, 0), (42, .ireturn, 43, 0, 0),
  (43, .aload_n 0, 44, 0, 0), (44, .getfield 85, 47, 11, 36), (47, .aload_n 0, 48, 0, 0), (48, .getfield 248, 51, 11, 18), (51, .iaload, 52, 0, 0), (52, .bipush 55, 54, 0, 0), (54, .invokestatic 417, 57, 238, 2), (57, .aload_n 0, 58, 0, 0),
  (58, .getfield 125, 61, 11, 53), (61, .iconst 4, 62, 0, 0), (62, .iaload, 63, 0, 0), (63, .invokestatic 417, 66, 238, 2), (66, .iconst 1, 67, 0, 0), (67, .iushr, 68, 0, 0), (68, .bipush 6, 70, 0, 0), (70, .irem, 71, 0, 0),
  (71, .istore_n 2, 72, 2, 0), (72, .iconst 0, 73, 0, 0), (73, .istore_n 3, 74, 3, 0), (74, .aload_n 0, 75, 0, 0), (75, .getfield 61, 78, 11, 28), (78, .bipush 6, 80, 0, 0), (80, .iconst 4, 81, 0, 0), (81, .aload_n 0, 82, 0, 0),
  (82, .getfield 248, 85, 11, 18), (85, .imul, 86, 0, 0), (86, .iload_n 1, 87, 1, 0), (87, .iadd, 88, 0, 0), (88, .imul, 89, 0, 0), (89, .iaload, 90, 0, 0), (90, .istore 4, 92, 4, 0), (92, .iload 4, 94, 4, 0),
  (94, .iload_n 2, 95, 2, 0), (95, .if_icmp .gt 32, 98, 127, 0), (98, .iinc 3 1, 101, 3, 0), (101, .iload 4, 103, 4, 0), (103, .aload_n 0, 104, 0, 0), (104, .getfield 61, 107, 11, 28), (107, .bipush 6, 109, 0, 0), (109, .iconst 4, 110, 0, 0),
  (110, .aload_n 0, 111, 0, 0), (111, .getfield 248, 114, 11, 18), (114, .imul, 115, 0, 0), (115, .iload_n 1, 116, 1, 0), (116, .iadd, 117, 0, 0), (117, .imul, 118, 0, 0), (118, .iload_n 3, 119, 3, 0), (119, .iadd, 120, 0, 0),
  (120, .iaload, 121, 0, 0), (121, .iadd, 122, 0, 0), (122, .istore 4, 124, 4, 0), (124, .goto (-32), 127, 92, 0), (127, .aload_n 0, 128, 0, 0), (128, .aload_n 0, 129, 0, 0), (129, .invokevirtual 399, 132, 221, 0), (132, .iload_n 1, 133, 1, 0),
  (133, .iload_n 3, 134, 3, 0), (134, .aload_n 0, 135, 0, 0), (135, .getfield 125, 138, 11, 53), (138, .iconst 5, 139, 0, 0), (139, .iaload, 140, 0, 0), (140, .invokevirtual 369, 143, 239, 4), (143, .istore 5, 145, 5, 0), (145, .aload_n 0, 146, 0, 0),
  (146, .iload 5, 148, 5, 0), (148, .aload_n 0, 149, 0, 0), (149, .getfield 357, 152, 11, 55), (152, .invokevirtual 420, 155, 243, 2), (155, .ireturn, 156, 0, 0)]
set_option maxRecDepth 20000 in
/-- 236: StoneHomeModel.isOver()Z -/
def at_X11_isOver : List (Nat × am_I) := [(0, .aload_n 0, 1, 0, 0), (1, .getfield 125, 4, 11, 53), (4, .bipush 7, 6, 0, 0), (6, .iaload, 7, 0, 0), (7, .iconst 1, 8, 0, 0), (8, .if_icmp .eq 14, 11, 22, 0), (11, .aload_n 0, 12, 0, 0), (12, .aload_n 0, 13, 0, 0),
  (13, .invokevirtual 399, 16, 221, 0), (16, .invokevirtual 385, 19, 223, 1), (19, .ifCond .eq 7, 22, 26, 0), (22, .iconst 1, 23, 0, 0), (23, .goto 4, 26, 27, 0), (26, .iconst 0, 27, 0, 0), (27, .ireturn, 28, 0, 0)]
set_option maxRecDepth 20000 in
/-- 237: StoneHomeModel.canKick(II)Z -/
def at_X11_canKick : List (Nat × am_I) := [(0, .aload_n 0, 1, 0, 0), (1, .iload_n 1, 2, 1, 0), (2, .invokevirtual 334, 5, 224, 1), (5, .iconst 3, 6, 0, 0), (6, .if_icmp .ne 20, 9, 26, 0), (9, .aload_n 0, 10, 0, 0), (10, .getfield 58, 13, 11, 27), (13, .iconst 4, 14, 0, 0),
  (14, .aload_n 0, 15, 0, 0), (15, .getfield 248, 18, 11, 18), (18, .imul, 19, 0, 0), (19, .iload_n 2, 20, 2, 0), (20, .iadd, 21, 0, 0), (21, .iaload, 22, 0, 0), (22, .iconst 1, 23, 0, 0), (23, .if_icmp .ne 7, 26, 30, 0),
  (26, .iconst 1, 27, 0, 0), (27, .goto 4, 30, 31, 0), (30, .iconst 0, 31, 0, 0), (31, .ireturn, 32, 0, 0)]
set_option maxRecDepth 20000 in
/-- 238: StoneHomeModel.mixed(II)I -/
def at_X11_mixed : List (Nat × am_I) := [(0, .iload_n 0, 1, 0, 0), (1, .iload_n 1, 2, 1, 0), (2, .ixor, 3, 0, 0), (3, .ldc_w 406, 6, 0, 1103515245), (6, .imul, 7, 0, 0), (7, .sipush 12345, 10, 0, 0), (10, .iadd, 11, 0, 0), (11, .istore_n 2, 12, 2, 0),
  (12, .iload_n 2, 13, 2, 0), (13, .iload_n 2, 14, 2, 0), (14, .bipush 15, 16, 0, 0), (16, .iushr, 17, 0, 0), (17, .ixor, 18, 0, 0), (18, .ireturn, 19, 0, 0)]
set_option maxRecDepth 20000 in
/-- 239: StoneHomeModel.brought(IIII)I -/
def at_X11_brought : List (Nat × am_I) := [(0, .bipush 6, 2, 0, 0), (2, .iconst 4, 3, 0, 0), (3, .aload_n 0, 4, 0, 0), (4, .getfield 248, 7, 11, 18), (7, .imul, 8, 0, 0), (8, .iload_n 2, 9, 2, 0), (9, .iadd, 10, 0, 0), (10, .imul, 11, 0, 0),
  (11, .iload_n 3, 12, 3, 0), (12, .iadd, 13, 0, 0), (13, .istore 5, 15, 5, 0), (15, .iload_n 1, 16, 1, 0), (16, .invokestatic 325, 19, 225, 1), (19, .istore 6, 21, 6, 0), (21, .iload_n 1, 22, 1, 0), (22, .invokestatic 328, 25, 226, 1),
  (25, .istore 7, 27, 7, 0), (27, .iload_n 1, 28, 1, 0), (28, .invokestatic 347, 31, 240, 1), (31, .istore 8, 33, 8, 0), (33, .aload_n 0, 34, 0, 0), (34, .getfield 119, 37, 11, 50), (37, .iconst 0, 38, 0, 0), (38, .iload 6, 40, 6, 0),
  (40, .iastore, 41, 0, 0), (41, .aload_n 0, 42, 0, 0), (42, .getfield 119, 45, 11, 50), (45, .iconst 1, 46, 0, 0), (46, .iload 7, 48, 7, 0), (48, .iastore, 49, 0, 0), (49, .aload_n 0, 50, 0, 0), (50, .getfield 119, 53, 11, 50),
  (53, .iconst 2, 54, 0, 0), (54, .iload 8, 56, 8, 0), (56, .iastore, 57, 0, 0), (57, .aload_n 0, 58, 0, 0), (58, .getfield 119, 61, 11, 50), (61, .iconst 3, 62, 0, 0), (62, .aload_n 0, 63, 0, 0), (63, .iload_n 1, 64, 1, 0),
  (64, .invokevirtual 334, 67, 224, 1), (67, .iastore, 68, 0, 0), (68, .aload_n 0, 69, 0, 0), (69, .getfield 119, 72, 11, 50), (72, .iconst 4, 73, 0, 0), (73, .iload_n 2, 74, 2, 0), (74, .iastore, 75, 0, 0), (75, .aload_n 0, 76, 0, 0),
  (76, .getfield 119, 79, 11, 50), (79, .iconst 5, 80, 0, 0), (80, .aload_n 0, 81, 0, 0), (81, .getfield 64, 84, 11, 29), (84, .iload 5, 86, 5, 0), (86, .iaload, 87, 0, 0), (87, .iastore, 88, 0, 0), (88, .aload_n 0, 89, 0, 0),
  (89, .getfield 119, 92, 11, 50), (92, .bipush 6, 94, 0, 0), (94, .iload 4, 96, 4, 0), (96, .iastore, 97, 0, 0), (97, .iload 6, 99, 6, 0), (99, .aload_n 0, 100, 0, 0), (100, .getfield 64, 103, 11, 29), (103, .iload 5, 105, 5, 0),
  (105, .iaload, 106, 0, 0), (106, .iadd, 107, 0, 0), (107, .aload_n 0, 108, 0, 0), (108, .iconst 1, 109, 0, 0), (109, .invokevirtual 344, 112, 233, 1), (112, .iconst 4, 113, 0, 0), (113, .invokestatic 350, 116, 241, 2), (116, .iadd, 117, 0, 0),
  (117, .istore 9, 119, 9, 0), (119, .iload 7, 121, 7, 0), (121, .aload_n 0, 122, 0, 0), (122, .getfield 67, 125, 11, 30), (125, .iload 5, 127, 5, 0), (127, .iaload, 128, 0, 0), (128, .iadd, 129, 0, 0), (129, .aload_n 0, 130, 0, 0),
  (130, .iconst 0, 131, 0, 0), (131, .invokevirtual 344, 134, 233, 1), (134, .iconst 2, 135, 0, 0), (135, .invokestatic 350, 138, 241, 2), (138, .iadd, 139, 0, 0), (139, .istore 10, 141, 10, 0), (141, .iload 8, 143, 8, 0), (143, .aload_n 0, 144, 0, 0),
  (144, .getfield 70, 147, 11, 31), (147, .iload 5, 149, 5, 0), (149, .iaload, 150, 0, 0), (150, .iadd, 151, 0, 0), (151, .aload_n 0, 152, 0, 0), (152, .getfield 52, 155, 11, 25), (155, .aload_n 0, 156, 0, 0), (156, .getfield 248, 159, 11, 18),
  (159, .iaload, 160, 0, 0), (160, .irem, 161, 0, 0), (161, .istore 11, 163, 11, 0), (163, .iload 9, 165, 9, 0), (165, .ifCond .ge 6, 168, 171, 0), (168, .iconst 0, 169, 0, 0), (169, .istore 9, 171, 9, 0), (171, .iload 9, 173, 9, 0),
  (173, .aload_n 0, 174, 0, 0), (174, .getfield 46, 177, 11, 23), (177, .aload_n 0, 178, 0, 0), (178, .getfield 248, 181, 11, 18), (181, .iaload, 182, 0, 0), (182, .if_icmp .lt 16, 185, 198, 0), (185, .aload_n 0, 186, 0, 0), (186, .getfield 46, 189, 11, 23),
  (189, .aload_n 0, 190, 0, 0), (190, .getfield 248, 193, 11, 18), (193, .iaload, 194, 0, 0), (194, .iconst 1, 195, 0, 0), (195, .isub, 196, 0, 0), (196, .istore 9, 198, 9, 0), (198, .aload_n 0, 199, 0, 0), (199, .iload 10, 201, 10, 0),
  (201, .iconst 0, 202, 0, 0), (202, .aload_n 0, 203, 0, 0), (203, .getfield 43, 206, 11, 22), (206, .aload_n 0, 207, 0, 0), (207, .getfield 248, 210, 11, 18), (210, .iaload, 211, 0, 0), (211, .iconst 1, 212, 0, 0), (212, .isub, 213, 0, 0),
  (213, .invokestatic 353, 216, 230, 3), (216, .ifCond .ne 7, 219, 223, 0), (219, .iconst 1, 220, 0, 0), (220, .goto 4, 223, 224, 0), (223, .iconst 0, 224, 0, 0), (224, .putfield 357, 227, 11, 441), (227, .aload_n 0, 228, 0, 0), (228, .getfield 357, 231, 11, 55),
  (231, .ifCond .eq 8, 234, 239, 0), (234, .iload_n 1, 235, 1, 0), (235, .invokestatic 360, 238, 242, 1), (238, .ireturn, 239, 0, 0), (239, .aload_n 0, 240, 0, 0), (240, .iload 9, 242, 9, 0), (242, .iload 10, 244, 10, 0), (244, .invokevirtual 331, 247, 227, 2),
  (247, .istore 12, 249, 12, 0), (249, .iload 12, 251, 12, 0), (251, .iconst 5, 252, 0, 0), (252, .if_icmp .ne 16, 255, 268, 0), (255, .iload 6, 257, 6, 0), (257, .iload 7, 259, 7, 0), (259, .iload 11, 261, 11, 0), (261, .iload_n 1, 262, 1, 0),
  (262, .iconst 4, 263, 0, 0), (263, .irem, 264, 0, 0), (264, .invokestatic 337, 267, 222, 4), (267, .ireturn, 268, 0, 0), (268, .aload_n 0, 269, 0, 0), (269, .iload 12, 271, 12, 0), (271, .iconst 4, 272, 0, 0), (272, .if_icmp .eq 33, 275, 305, 0),
  (275, .iload 12, 277, 12, 0), (277, .bipush 6, 279, 0, 0), (279, .if_icmp .eq 30, 282, 309, 0), (282, .aload_n 0, 283, 0, 0), (283, .iload 9, 285, 9, 0), (285, .iload 10, 287, 10, 0), (287, .iload 4, 289, 4, 0), (289, .aload_n 0, 290, 0, 0),
  (290, .getfield 82, 293, 11, 35), (293, .aload_n 0, 294, 0, 0), (294, .getfield 248, 297, 11, 18), (297, .iaload, 298, 0, 0), (298, .iadd, 299, 0, 0), (299, .invokevirtual 363, 302, 232, 3), (302, .ifCond .eq 7, 305, 309, 0), (305, .iconst 1, 306, 0, 0),
  (306, .goto 4, 309, 310, 0), (309, .iconst 0, 310, 0, 0), (310, .putfield 357, 313, 11, 441), (313, .aload_n 0, 314, 0, 0), (314, .getfield 357, 317, 11, 55), (317, .ifCond .eq 10, 320, 327, 0), (320, .iload_n 1, 321, 1, 0), (321, .invokestatic 360, 324, 242, 1),
  (324, .goto 15, 327, 339, 0), (327, .iload 9, 329, 9, 0), (329, .iload 10, 331, 10, 0), (331, .iload 11, 333, 11, 0), (333, .iload_n 1, 334, 1, 0), (334, .iconst 4, 335, 0, 0), (335, .irem, 336, 0, 0), (336, .invokestatic 337, 339, 222, 4),
  (339, .ireturn, 340, 0, 0)]
set_option maxRecDepth 20000 in
/-- 240: StoneHomeModel.faceOf(I)I -/
def at_X11_faceOf : List (Nat × am_I) := [(0, .iload_n 0, 1, 0, 0), (1, .iconst 4, 2, 0, 0), (2, .idiv, 3, 0, 0), (3, .iconst 3, 4, 0, 0), (4, .irem, 5, 0, 0), (5, .ireturn, 6, 0, 0)]
set_option maxRecDepth 20000 in
/-- 241: StoneHomeModel.held(II)I -/
def at_X11_held : List (Nat × am_I) := [(0, .iload_n 0, 1, 0, 0), (1, .iload_n 1, 2, 1, 0), (2, .ineg, 3, 0, 0), (3, .if_icmp .ge 8, 6, 11, 0), (6, .iload_n 1, 7, 1, 0), (7, .ineg, 8, 0, 0), (8, .goto 13, 11, 21, 0), (11, .iload_n 0, 12, 0, 0),
  (12, .iload_n 1, 13, 1, 0), (13, .if_icmp .le 7, 16, 20, 0), (16, .iload_n 1, 17, 1, 0), (17, .goto 4, 20, 21, 0), (20, .iload_n 0, 21, 0, 0), (21, .ireturn, 22, 0, 0)]
set_option maxRecDepth 20000 in
/-- 242: StoneHomeModel.losing(I)I -/
def at_X11_losing : List (Nat × am_I) := [(0, .iload_n 0, 1, 0, 0), (1, .iconst 4, 2, 0, 0), (2, .irem, 3, 0, 0), (3, .ifCond .le 9, 6, 12, 0), (6, .iload_n 0, 7, 0, 0), (7, .iconst 1, 8, 0, 0), (8, .isub, 9, 0, 0), (9, .goto 6, 12, 15, 0),
  (12, .sipush 384, 15, 0, 0), (15, .ireturn, 16, 0, 0)]
set_option maxRecDepth 20000 in
/-- 243: StoneHomeModel.comesTo(IZ)I -/
def at_X11_comesTo : List (Nat × am_I) := [(0, .aload_n 0, 1, 0, 0), (1, .invokevirtual 407, 4, 244, 0), (4, .aload_n 0, 5, 0, 0), (5, .getfield 128, 8, 11, 54), (8, .iconst 4, 9, 0, 0), (9, .dup2, 10, 0, 0), (10, .iaload, 11, 0, 0), (11, .iconst 1, 12, 0, 0),
  (12, .iadd, 13, 0, 0), (13, .iastore, 14, 0, 0), (14, .aload_n 0, 15, 0, 0), (15, .getfield 128, 18, 11, 54), (18, .iconst 5, 19, 0, 0), (19, .dup2, 20, 0, 0), (20, .iaload, 21, 0, 0), (21, .aload_n 0, 22, 0, 0),
  (22, .getfield 82, 25, 11, 35), (25, .aload_n 0, 26, 0, 0), (26, .getfield 248, 29, 11, 18), (29, .iaload, 30, 0, 0), (30, .iadd, 31, 0, 0), (31, .iastore, 32, 0, 0), (32, .iconst 0, 33, 0, 0), (33, .istore_n 3, 34, 3, 0),
  (34, .iload_n 1, 35, 1, 0), (35, .sipush 384, 38, 0, 0), (38, .if_icmp .ne 16, 41, 54, 0), (41, .aload_n 0, 42, 0, 0), (42, .getfield 128, 45, 11, 54), (45, .bipush 7, 47, 0, 0), (47, .iconst 1, 48, 0, 0), (48, .iastore, 49, 0, 0),
  (49, .iconst 2, 50, 0, 0), (50, .istore_n 3, 51, 3, 0), (51, .goto 79, 54, 130, 0), (54, .aload_n 0, 55, 0, 0), (55, .getfield 128, 58, 11, 54), (58, .iconst 0, 59, 0, 0), (59, .iload_n 1, 60, 1, 0), (60, .invokestatic 325, 63, 225, 1),
  (63, .iastore, 64, 0, 0), (64, .aload_n 0, 65, 0, 0), (65, .getfield 128, 68, 11, 54), (68, .iconst 1, 69, 0, 0), (69, .iload_n 1, 70, 1, 0), (70, .invokestatic 328, 73, 226, 1), (73, .iastore, 74, 0, 0), (74, .aload_n 0, 75, 0, 0),
  (75, .getfield 128, 78, 11, 54), (78, .iconst 2, 79, 0, 0), (79, .iload_n 1, 80, 1, 0), (80, .invokestatic 347, 83, 240, 1), (83, .iastore, 84, 0, 0), (84, .aload_n 0, 85, 0, 0), (85, .getfield 128, 88, 11, 54), (88, .iconst 3, 89, 0, 0),
  (89, .iload_n 1, 90, 1, 0), (90, .iconst 4, 91, 0, 0), (91, .irem, 92, 0, 0), (92, .iastore, 93, 0, 0), (93, .iload_n 2, 94, 2, 0), (94, .ifCond .eq 14, 97, 108, 0), (97, .aload_n 0, 98, 0, 0), (98, .getfield 128, 101, 11, 54),
  (101, .bipush 8, 103, 0, 0), (103, .dup2, 104, 0, 0), (104, .iaload, 105, 0, 0), (105, .iconst 1, 106, 0, 0), (106, .iadd, 107, 0, 0), (107, .iastore, 108, 0, 0), (108, .iload_n 2, 109, 2, 0), (109, .ifCond .eq 7, 112, 116, 0),
  (112, .iconst 3, 113, 0, 0), (113, .goto 16, 116, 129, 0), (116, .aload_n 0, 117, 0, 0), (117, .iload_n 1, 118, 1, 0), (118, .invokevirtual 385, 121, 223, 1), (121, .ifCond .eq 7, 124, 128, 0), (124, .iconst 1, 125, 0, 0), (125, .goto 4, 128, 129, 0),
  (128, .iconst 0, 129, 0, 0), (129, .istore_n 3, 130, 3, 0), (130, .aload_n 0, 131, 0, 0), (131, .invokevirtual 410, 134, 245, 0), (134, .iload_n 3, 135, 3, 0), (135, .ireturn, 136, 0, 0)]
set_option maxRecDepth 20000 in
/-- 244: StoneHomeModel.copies()V -/
def at_X11_copies : List (Nat × am_I) := [(0, .iconst 0, 1, 0, 0), (1, .istore_n 1, 2, 1, 0), (2, .iload_n 1, 3, 1, 0), (3, .bipush 10, 5, 0, 0), (5, .if_icmp .ge 21, 8, 26, 0), (8, .aload_n 0, 9, 0, 0), (9, .getfield 128, 12, 11, 54), (12, .iload_n 1, 13, 1, 0),
  (13, .aload_n 0, 14, 0, 0), (14, .getfield 125, 17, 11, 53), (17, .iload_n 1, 18, 1, 0), (18, .iaload, 19, 0, 0), (19, .iastore, 20, 0, 0), (20, .iinc 1 1, 23, 1, 0), (23, .goto (-21), 26, 2, 0), (26, .return_, 27, 0, 0)]
set_option maxRecDepth 20000 in
/-- 245: StoneHomeModel.keeps()V -/
def at_X11_keeps : List (Nat × am_I) := [(0, .aload_n 0, 1, 0, 0), (1, .getfield 270, 4, 11, 58), (4, .bipush 50, 6, 0, 0), (6, .if_icmp .ne 43, 9, 49, 0), (9, .iconst 0, 10, 0, 0), (10, .istore_n 1, 11, 1, 0), (11, .iload_n 1, 12, 1, 0), (12, .sipush 490, 15, 0, 0),
  (15, .if_icmp .ge 24, 18, 39, 0), (18, .aload_n 0, 19, 0, 0), (19, .getfield 137, 22, 11, 59), (22, .iload_n 1, 23, 1, 0), (23, .aload_n 0, 24, 0, 0), (24, .getfield 137, 27, 11, 59), (27, .iload_n 1, 28, 1, 0), (28, .bipush 10, 30, 0, 0),
  (30, .iadd, 31, 0, 0), (31, .iaload, 32, 0, 0), (32, .iastore, 33, 0, 0), (33, .iinc 1 1, 36, 1, 0), (36, .goto (-25), 39, 11, 0), (39, .aload_n 0, 40, 0, 0), (40, .dup, 41, 0, 0), (41, .getfield 270, 44, 11, 58),
  (44, .iconst 1, 45, 0, 0), (45, .isub, 46, 0, 0), (46, .putfield 270, 49, 11, 464), (49, .iconst 0, 50, 0, 0), (50, .istore_n 1, 51, 1, 0), (51, .iload_n 1, 52, 1, 0), (52, .bipush 10, 54, 0, 0), (54, .if_icmp .ge 29, 57, 83, 0),
  (57, .aload_n 0, 58, 0, 0), (58, .getfield 137, 61, 11, 59), (61, .bipush 10, 63, 0, 0), (63, .aload_n 0, 64, 0, 0), (64, .getfield 270, 67, 11, 58), (67, .imul, 68, 0, 0), (68, .iload_n 1, 69, 1, 0), (69, .iadd, 70, 0, 0),
  (70, .aload_n 0, 71, 0, 0), (71, .getfield 125, 74, 11, 53), (74, .iload_n 1, 75, 1, 0), (75, .iaload, 76, 0, 0), (76, .iastore, 77, 0, 0), (77, .iinc 1 1, 80, 1, 0), (80, .goto (-29), 83, 51, 0), (83, .aload_n 0, 84, 0, 0),
  (84, .dup, 85, 0, 0), (85, .getfield 270, 88, 11, 58), (88, .iconst 1, 89, 0, 0), (89, .iadd, 90, 0, 0), (90, .putfield 270, 93, 11, 464), (93, .aload_n 0, 94, 0, 0), (94, .invokevirtual 178, 97, 190, 0), (97, .return_, 98, 0, 0)]
set_option maxRecDepth 20000 in
/-- 246: StoneHomeModel.waits()I -/
def at_X11_waits : List (Nat × am_I) := [(0, .aload_n 0, 1, 0, 0), (1, .invokevirtual 413, 4, 236, 0), (4, .ifCond .eq 6, 7, 10, 0), (7, .bipush (-2), 9, 0, 0), (9, .ireturn, 10, 0, 0), (10, .aload_n 0, 11, 0, 0), (11, .aload_n 0, 12, 0, 0), (12, .invokevirtual 399, 15, 221, 0),
  (15, .aload_n 0, 16, 0, 0), (16, .getfield 125, 19, 11, 53), (19, .iconst 5, 20, 0, 0), (20, .iaload, 21, 0, 0), (21, .invokevirtual 366, 24, 247, 2), (24, .istore_n 1, 25, 1, 0), (25, .aload_n 0, 26, 0, 0), (26, .iload_n 1, 27, 1, 0),
  (27, .iload_n 1, 28, 1, 0), (28, .aload_n 0, 29, 0, 0), (29, .invokevirtual 399, 32, 221, 0), (32, .if_icmp .eq 7, 35, 39, 0), (35, .iconst 1, 36, 0, 0), (36, .goto 4, 39, 40, 0), (39, .iconst 0, 40, 0, 0), (40, .invokevirtual 420, 43, 243, 2),
  (43, .ireturn, 44, 0, 0)]
set_option maxRecDepth 20000 in
/-- 247: StoneHomeModel.waited(II)I -/
def at_X11_waited : List (Nat × am_I) := [(0, .aload_n 0, 1, 0, 0), (1, .iload_n 1, 2, 1, 0), (2, .invokestatic 325, 5, 225, 1), (5, .iload_n 1, 6, 1, 0), (6, .invokestatic 328, 9, 226, 1), (9, .iload_n 2, 10, 2, 0), (10, .aload_n 0, 11, 0, 0), (11, .getfield 82, 14, 11, 35),
  (14, .aload_n 0, 15, 0, 0), (15, .getfield 248, 18, 11, 18), (18, .iaload, 19, 0, 0), (19, .iadd, 20, 0, 0), (20, .invokevirtual 363, 23, 232, 3), (23, .ifCond .eq 10, 26, 33, 0), (26, .iload_n 1, 27, 1, 0), (27, .invokestatic 360, 30, 242, 1),
  (30, .goto 4, 33, 34, 0), (33, .iload_n 1, 34, 1, 0), (34, .ireturn, 35, 0, 0)]
set_option maxRecDepth 20000 in
/-- 248: StoneHomeModel.touch(I)Z -/
def at_X11_touch : List (Nat × am_I) := [(0, .iload_n 1, 1, 1, 0), (1, .iconst 0, 2, 0, 0), (2, .iconst 3, 3, 0, 0), (3, .invokestatic 353, 6, 230, 3), (6, .ifCond .eq 10, 9, 16, 0), (9, .aload_n 0, 10, 0, 0), (10, .invokevirtual 413, 13, 236, 0), (13, .ifCond .eq 5, 16, 18, 0),
  (16, .iconst 0, 17, 0, 0), (17, .ireturn, 18, 0, 0), (18, .aload_n 0, 19, 0, 0), (19, .aload_n 0, 20, 0, 0), (20, .invokevirtual 399, 23, 221, 0), (23, .iload_n 1, 24, 1, 0), (24, .invokevirtual 424, 27, 249, 2), (27, .istore_n 2, 28, 2, 0),
  (28, .iload_n 2, 29, 2, 0), (29, .ifCond .ge 5, 32, 34, 0), (32, .iconst 0, 33, 0, 0), (33, .ireturn, 34, 0, 0), (34, .aload_n 0, 35, 0, 0), (35, .invokevirtual 407, 38, 244, 0), (38, .aload_n 0, 39, 0, 0), (39, .getfield 128, 42, 11, 54),
  (42, .iconst 0, 43, 0, 0), (43, .iload_n 2, 44, 2, 0), (44, .invokestatic 325, 47, 225, 1), (47, .iastore, 48, 0, 0), (48, .aload_n 0, 49, 0, 0), (49, .getfield 128, 52, 11, 54), (52, .iconst 1, 53, 0, 0), (53, .iload_n 2, 54, 2, 0),
  (54, .invokestatic 328, 57, 226, 1), (57, .iastore, 58, 0, 0), (58, .aload_n 0, 59, 0, 0), (59, .getfield 128, 62, 11, 54), (62, .bipush 6, 64, 0, 0), (64, .dup2, 65, 0, 0), (65, .iaload, 66, 0, 0), (66, .iconst 1, 67, 0, 0),
  (67, .iadd, 68, 0, 0), (68, .iastore, 69, 0, 0), (69, .aload_n 0, 70, 0, 0), (70, .invokevirtual 410, 73, 245, 0), (73, .iconst 1, 74, 0, 0), (74, .ireturn, 75, 0, 0)]
set_option maxRecDepth 20000 in
/-- 249: StoneHomeModel.touched(II)I -/
def at_X11_touched : List (Nat × am_I) := [(0, .iload_n 1, 1, 1, 0), (1, .invokestatic 325, 4, 225, 1), (4, .iload_n 2, 5, 2, 0), (5, .ifCond .ne 7, 8, 12, 0), (8, .iconst 1, 9, 0, 0), (9, .goto 13, 12, 22, 0), (12, .iload_n 2, 13, 2, 0), (13, .iconst 1, 14, 0, 0),
  (14, .if_icmp .ne 7, 17, 21, 0), (17, .iconst (-1), 18, 0, 0), (18, .goto 4, 21, 22, 0), (21, .iconst 0, 22, 0, 0), (22, .iadd, 23, 0, 0), (23, .istore_n 3, 24, 3, 0), (24, .iload_n 1, 25, 1, 0), (25, .invokestatic 328, 28, 226, 1),
  (28, .iload_n 2, 29, 2, 0), (29, .iconst 2, 30, 0, 0), (30, .if_icmp .ne 7, 33, 37, 0), (33, .iconst 1, 34, 0, 0), (34, .goto 13, 37, 47, 0), (37, .iload_n 2, 38, 2, 0), (38, .iconst 3, 39, 0, 0), (39, .if_icmp .ne 7, 42, 46, 0),
  (42, .iconst (-1), 43, 0, 0), (43, .goto 4, 46, 47, 0), (46, .iconst 0, 47, 0, 0), (47, .iadd, 48, 0, 0), (48, .istore 4, 50, 4, 0), (50, .aload_n 0, 51, 0, 0), (51, .iload_n 3, 52, 3, 0), (52, .iload 4, 54, 4, 0),
  (54, .invokevirtual 403, 57, 229, 2), (57, .ifCond .eq 25, 60, 82, 0), (60, .aload_n 0, 61, 0, 0), (61, .iload_n 3, 62, 3, 0), (62, .iload 4, 64, 4, 0), (64, .invokevirtual 331, 67, 227, 2), (67, .iconst 4, 68, 0, 0), (68, .if_icmp .eq 14, 71, 82, 0),
  (71, .aload_n 0, 72, 0, 0), (72, .iload_n 3, 73, 3, 0), (73, .iload 4, 75, 4, 0), (75, .invokevirtual 331, 78, 227, 2), (78, .iconst 5, 79, 0, 0), (79, .if_icmp .ne 5, 82, 84, 0), (82, .iconst (-1), 83, 0, 0), (83, .ireturn, 84, 0, 0),
  (84, .iload_n 3, 85, 3, 0), (85, .iload 4, 87, 4, 0), (87, .iload_n 1, 88, 1, 0), (88, .invokestatic 347, 91, 240, 1), (91, .iload_n 1, 92, 1, 0), (92, .iconst 4, 93, 0, 0), (93, .irem, 94, 0, 0), (94, .invokestatic 337, 97, 222, 4),
  (97, .ireturn, 98, 0, 0)]
set_option maxRecDepth 20000 in
/-- 250: StoneHomeModel.undo()Z -/
def at_X11_undo : List (Nat × am_I) := [(0, .aload_n 0, 1, 0, 0), (1, .getfield 270, 4, 11, 58), (4, .ifCond .ne 5, 7, 9, 0), (7, .iconst 0, 8, 0, 0), (8, .ireturn, 9, 0, 0), (9, .aload_n 0, 10, 0, 0), (10, .dup, 11, 0, 0), (11, .getfield 270, 14, 11, 58),
  (14, .iconst 1, 15, 0, 0), (15, .isub, 16, 0, 0), (16, .putfield 270, 19, 11, 464), (19, .iconst 0, 20, 0, 0), (20, .istore_n 1, 21, 1, 0), (21, .iload_n 1, 22, 1, 0), (22, .bipush 10, 24, 0, 0), (24, .if_icmp .ge 29, 27, 53, 0),
  (27, .aload_n 0, 28, 0, 0), (28, .getfield 125, 31, 11, 53), (31, .iload_n 1, 32, 1, 0), (32, .aload_n 0, 33, 0, 0), (33, .getfield 137, 36, 11, 59), (36, .bipush 10, 38, 0, 0), (38, .aload_n 0, 39, 0, 0), (39, .getfield 270, 42, 11, 58),
  (42, .imul, 43, 0, 0), (43, .iload_n 1, 44, 1, 0), (44, .iadd, 45, 0, 0), (45, .iaload, 46, 0, 0), (46, .iastore, 47, 0, 0), (47, .iinc 1 1, 50, 1, 0), (50, .goto (-29), 53, 21, 0), (53, .iconst 1, 54, 0, 0),
  (54, .ireturn, 55, 0, 0)]
set_option maxRecDepth 20000 in
/-- 251: StoneHomeModel.brings(III)I -/
def at_X11_brings : List (Nat × am_I) := [(0, .iload_n 1, 1, 1, 0), (1, .iconst 0, 2, 0, 0), (2, .aload_n 0, 3, 0, 0), (3, .getfield 55, 6, 11, 26), (6, .aload_n 0, 7, 0, 0), (7, .getfield 248, 10, 11, 18), (10, .iaload, 11, 0, 0), (11, .iconst 1, 12, 0, 0),
  (12, .isub, 13, 0, 0), (13, .invokestatic 353, 16, 230, 3), (16, .ifCond .eq 54, 19, 70, 0), (19, .iload_n 2, 20, 2, 0), (20, .iconst 0, 21, 0, 0), (21, .aload_n 0, 22, 0, 0), (22, .getfield 58, 25, 11, 27), (25, .iconst 4, 26, 0, 0),
  (26, .aload_n 0, 27, 0, 0), (27, .getfield 248, 30, 11, 18), (30, .imul, 31, 0, 0), (31, .iload_n 1, 32, 1, 0), (32, .iadd, 33, 0, 0), (33, .iaload, 34, 0, 0), (34, .iconst 1, 35, 0, 0), (35, .isub, 36, 0, 0),
  (36, .invokestatic 353, 39, 230, 3), (39, .ifCond .eq 31, 42, 70, 0), (42, .iload_n 3, 43, 3, 0), (43, .iconst 0, 44, 0, 0), (44, .iconst 3, 45, 0, 0), (45, .invokestatic 353, 48, 230, 3), (48, .ifCond .eq 22, 51, 70, 0), (51, .aload_n 0, 52, 0, 0),
  (52, .invokevirtual 413, 55, 236, 0), (55, .ifCond .ne 15, 58, 70, 0), (58, .aload_n 0, 59, 0, 0), (59, .aload_n 0, 60, 0, 0), (60, .invokevirtual 399, 63, 221, 0), (63, .iload_n 1, 64, 1, 0), (64, .invokevirtual 372, 67, 237, 2), (67, .ifCond .ne 5, 70, 72, 0),
  (70, .iconst (-1), 71, 0, 0), (71, .ireturn, 72, 0, 0), (72, .aload_n 0, 73, 0, 0), (73, .aload_n 0, 74, 0, 0), (74, .invokevirtual 399, 77, 221, 0), (77, .iload_n 1, 78, 1, 0), (78, .iload_n 2, 79, 2, 0), (79, .aload_n 0, 80, 0, 0),
  (80, .getfield 125, 83, 11, 53), (83, .iconst 5, 84, 0, 0), (84, .iaload, 85, 0, 0), (85, .invokevirtual 369, 88, 239, 4), (88, .istore 4, 90, 4, 0), (90, .iload_n 3, 91, 3, 0), (91, .iconst 3, 92, 0, 0), (92, .if_icmp .ne 16, 95, 108, 0),
  (95, .aload_n 0, 96, 0, 0), (96, .getfield 357, 99, 11, 55), (99, .ifCond .eq 7, 102, 106, 0), (102, .iconst 1, 103, 0, 0), (103, .goto 4, 106, 107, 0), (106, .iconst 0, 107, 0, 0), (107, .ireturn, 108, 0, 0), (108, .iload 4, 110, 4, 0),
  (110, .sipush 384, 113, 0, 0), (113, .if_icmp .ne 8, 116, 121, 0), (116, .bipush (-2), 118, 0, 0), (118, .goto 33, 121, 151, 0), (121, .iload_n 3, 122, 3, 0), (122, .ifCond .ne 11, 125, 133, 0), (125, .iload 4, 127, 4, 0), (127, .invokestatic 325, 130, 225, 1),
  (130, .goto 21, 133, 151, 0), (133, .iload_n 3, 134, 3, 0), (134, .iconst 1, 135, 0, 0), (135, .if_icmp .ne 11, 138, 146, 0), (138, .iload 4, 140, 4, 0), (140, .invokestatic 328, 143, 226, 1), (143, .goto 8, 146, 151, 0), (146, .iload 4, 148, 4, 0),
  (148, .invokestatic 347, 151, 240, 1), (151, .ireturn, 152, 0, 0)]
set_option maxRecDepth 20000 in
/-- 252: StoneHomeModel.can()I -/
def at_X11_can : List (Nat × am_I) := [(0, .iconst 0, 1, 0, 0), (1, .istore_n 1, 2, 1, 0), (2, .iconst 0, 3, 0, 0), (3, .istore_n 2, 4, 2, 0), (4, .iload_n 2, 5, 2, 0), (5, .aload_n 0, 6, 0, 0), (6, .getfield 55, 9, 11, 26), (9, .aload_n 0, 10, 0, 0),
  (10, .getfield 248, 13, 11, 18), (13, .iaload, 14, 0, 0), (14, .if_icmp .ge 34, 17, 48, 0), (17, .aload_n 0, 18, 0, 0), (18, .invokevirtual 413, 21, 236, 0), (21, .ifCond .ne 27, 24, 48, 0), (24, .aload_n 0, 25, 0, 0), (25, .aload_n 0, 26, 0, 0),
  (26, .invokevirtual 399, 29, 221, 0), (29, .iload_n 2, 30, 2, 0), (30, .invokevirtual 372, 33, 237, 2), (33, .ifCond .eq 9, 36, 42, 0), (36, .iload_n 1, 37, 1, 0), (37, .iconst 1, 38, 0, 0), (38, .iload_n 2, 39, 2, 0), (39, .ishl, 40, 0, 0),
  (40, .ior, 41, 0, 0), (41, .istore_n 1, 42, 1, 0), (42, .iinc 2 1, 45, 2, 0), (45, .goto (-41), 48, 4, 0), (48, .iload_n 1, 49, 1, 0), (49, .ireturn, 50, 0, 0)]
set_option maxRecDepth 20000 in
/-- 253: StoneHomeModel.home(IZ)I -/
def at_X11_home : List (Nat × am_I) := [(0, .iload_n 1, 1, 1, 0), (1, .invokestatic 430, 4, 254, 1), (4, .ifCond .ne 5, 7, 9, 0), (7, .iconst (-1), 8, 0, 0), (8, .ireturn, 9, 0, 0), (9, .aload_n 0, 10, 0, 0), (10, .iload_n 1, 11, 1, 0), (11, .invokevirtual 433, 14, 255, 1),
  (14, .aload_n 0, 15, 0, 0), (15, .getfield 131, 18, 11, 56), (18, .aload_n 0, 19, 0, 0), (19, .invokevirtual 399, 22, 221, 0), (22, .iaload, 23, 0, 0), (23, .iload_n 1, 24, 1, 0), (24, .invokestatic 388, 27, 258, 1), (27, .iload_n 2, 28, 2, 0),
  (28, .invokestatic 436, 31, 262, 3), (31, .ireturn, 32, 0, 0)]
set_option maxRecDepth 20000 in
/-- 254: StoneHomeModel.isLong(I)Z -/
def at_X11_isLong : List (Nat × am_I) := [(0, .iload_n 0, 1, 0, 0), (1, .iconst 0, 2, 0, 0), (2, .bipush 10, 4, 0, 0), (4, .invokestatic 353, 7, 230, 3), (7, .ireturn, 8, 0, 0)]
set_option maxRecDepth 20000 in
/-- 255: StoneHomeModel.fills(I)V -/
def at_X11_fills : List (Nat × am_I) := [(0, .aload_n 0, 1, 0, 0), (1, .iload_n 1, 2, 1, 0), (2, .iconst 0, 3, 0, 0), (3, .iconst (-1), 4, 0, 0), (4, .aload_n 0, 5, 0, 0), (5, .getfield 125, 8, 11, 53), (8, .iconst 5, 9, 0, 0), (9, .iaload, 10, 0, 0),
  (10, .invokevirtual 395, 13, 256, 4), (13, .return_, 14, 0, 0)]
set_option maxRecDepth 20000 in
/-- 256: StoneHomeModel.fillsFrom(IIII)V -/
def at_X11_fillsFrom : List (Nat × am_I) := [(0, .iconst 0, 1, 0, 0), (1, .istore 5, 3, 5, 0), (3, .iload 5, 5, 5, 0), (5, .sipush 385, 8, 0, 0), (8, .if_icmp .ge 39, 11, 47, 0), (11, .aload_n 0, 12, 0, 0), (12, .getfield 131, 15, 11, 56), (15, .iload 5, 17, 5, 0),
  (17, .aload_n 0, 18, 0, 0), (18, .iload 5, 20, 5, 0), (20, .invokevirtual 385, 23, 223, 1), (23, .ifCond .eq 16, 26, 39, 0), (26, .aload_n 0, 27, 0, 0), (27, .iload 5, 29, 5, 0), (29, .invokevirtual 379, 32, 257, 1), (32, .ifCond .eq 7, 35, 39, 0),
  (35, .iconst 1, 36, 0, 0), (36, .goto 4, 39, 40, 0), (39, .iconst 0, 40, 0, 0), (40, .iastore, 41, 0, 0), (41, .iinc 5 1, 44, 5, 0), (44, .goto (-41), 47, 3, 0), (47, .iload_n 1, 48, 1, 0), (48, .iconst 1, 49, 0, 0),
  (49, .isub, 50, 0, 0), (50, .istore 5, 52, 5, 0), (52, .iload 5, 54, 5, 0), (54, .iload_n 2, 55, 2, 0), (55, .if_icmp .lt 38, 58, 93, 0), (58, .aload_n 0, 59, 0, 0), (59, .iload_n 3, 60, 3, 0), (60, .iload 4, 62, 4, 0),
  (62, .iload 5, 64, 5, 0), (64, .aload_n 0, 65, 0, 0), (65, .getfield 82, 68, 11, 35), (68, .aload_n 0, 69, 0, 0), (69, .getfield 248, 72, 11, 18), (72, .iaload, 73, 0, 0), (73, .imul, 74, 0, 0), (74, .iadd, 75, 0, 0),
  (75, .iload_n 1, 76, 1, 0), (76, .iconst 1, 77, 0, 0), (77, .isub, 78, 0, 0), (78, .iload 5, 80, 5, 0), (80, .isub, 81, 0, 0), (81, .invokestatic 388, 84, 258, 1), (84, .invokevirtual 391, 87, 259, 3), (87, .iinc 5 (-1), 90, 5, 0),
  (90, .goto (-38), 93, 52, 0), (93, .return_, 94, 0, 0)]
set_option maxRecDepth 20000 in
/-- 257: StoneHomeModel.isSquare(I)Z -/
def at_X11_isSquare : List (Nat × am_I) := [(0, .iload_n 1, 1, 1, 0), (1, .invokestatic 325, 4, 225, 1), (4, .aload_n 0, 5, 0, 0), (5, .getfield 46, 8, 11, 23), (8, .aload_n 0, 9, 0, 0), (9, .getfield 248, 12, 11, 18), (12, .iaload, 13, 0, 0), (13, .if_icmp .ge 57, 16, 70, 0),
  (16, .iload_n 1, 17, 1, 0), (17, .invokestatic 328, 20, 226, 1), (20, .aload_n 0, 21, 0, 0), (21, .getfield 43, 24, 11, 22), (24, .aload_n 0, 25, 0, 0), (25, .getfield 248, 28, 11, 18), (28, .iaload, 29, 0, 0), (29, .if_icmp .ge 41, 32, 70, 0),
  (32, .iload_n 1, 33, 1, 0), (33, .invokestatic 347, 36, 240, 1), (36, .aload_n 0, 37, 0, 0), (37, .getfield 52, 40, 11, 25), (40, .aload_n 0, 41, 0, 0), (41, .getfield 248, 44, 11, 18), (44, .iaload, 45, 0, 0), (45, .if_icmp .ge 25, 48, 70, 0),
  (48, .aload_n 0, 49, 0, 0), (49, .iload_n 1, 50, 1, 0), (50, .invokevirtual 334, 53, 224, 1), (53, .iconst 4, 54, 0, 0), (54, .if_icmp .eq 16, 57, 70, 0), (57, .aload_n 0, 58, 0, 0), (58, .iload_n 1, 59, 1, 0), (59, .invokevirtual 334, 62, 224, 1),
  (62, .iconst 5, 63, 0, 0), (63, .if_icmp .eq 7, 66, 70, 0), (66, .iconst 1, 67, 0, 0), (67, .goto 4, 70, 71, 0), (70, .iconst 0, 71, 0, 0), (71, .ireturn, 72, 0, 0)]
set_option maxRecDepth 20000 in
/-- 258: StoneHomeModel.sixes(I)I -/
def at_X11_sixes : List (Nat × am_I) := [(0, .iconst 1, 1, 0, 0), (1, .istore_n 1, 2, 1, 0), (2, .iconst 0, 3, 0, 0), (3, .istore_n 2, 4, 2, 0), (4, .iload_n 2, 5, 2, 0), (5, .iload_n 0, 6, 0, 0), (6, .if_icmp .ge 14, 9, 20, 0), (9, .iload_n 1, 10, 1, 0),
  (10, .bipush 6, 12, 0, 0), (12, .imul, 13, 0, 0), (13, .istore_n 1, 14, 1, 0), (14, .iinc 2 1, 17, 2, 0), (17, .goto (-13), 20, 4, 0), (20, .iload_n 1, 21, 1, 0), (21, .ireturn, 22, 0, 0)]
set_option maxRecDepth 20000 in
/-- 259: StoneHomeModel.earlier(III)V -/
def at_X11_earlier : List (Nat × am_I) := [(0, .iconst 0, 1, 0, 0), (1, .istore 4, 3, 4, 0), (3, .iload 4, 5, 4, 0), (5, .sipush 384, 8, 0, 0), (8, .if_icmp .ge 101, 11, 109, 0), (11, .aload_n 0, 12, 0, 0), (12, .iload 4, 14, 4, 0), (14, .invokevirtual 379, 17, 257, 1),
  (17, .ifCond .ne 6, 20, 23, 0), (20, .goto 83, 23, 103, 0), (23, .aload_n 0, 24, 0, 0), (24, .iload 4, 26, 4, 0), (26, .invokevirtual 334, 29, 224, 1), (29, .bipush 6, 31, 0, 0), (31, .if_icmp .ne 17, 34, 48, 0), (34, .aload_n 0, 35, 0, 0),
  (35, .getfield 134, 38, 11, 57), (38, .iload 4, 40, 4, 0), (40, .bipush 6, 42, 0, 0), (42, .iload_n 3, 43, 3, 0), (43, .imul, 44, 0, 0), (44, .iastore, 45, 0, 0), (45, .goto 58, 48, 103, 0), (48, .iload_n 1, 49, 1, 0),
  (49, .ifCond .ge 13, 52, 62, 0), (52, .aload_n 0, 53, 0, 0), (53, .iload 4, 55, 4, 0), (55, .iload_n 2, 56, 2, 0), (56, .invokevirtual 382, 59, 260, 2), (59, .goto 26, 62, 85, 0), (62, .aload_n 0, 63, 0, 0), (63, .iload 4, 65, 4, 0),
  (65, .iload_n 1, 66, 1, 0), (66, .invokevirtual 372, 69, 237, 2), (69, .ifCond .eq 7, 72, 76, 0), (72, .iload_n 1, 73, 1, 0), (73, .goto 12, 76, 85, 0), (76, .aload_n 0, 77, 0, 0), (77, .getfield 55, 80, 11, 26), (80, .aload_n 0, 81, 0, 0),
  (81, .getfield 248, 84, 11, 18), (84, .iaload, 85, 0, 0), (85, .istore 5, 87, 5, 0), (87, .aload_n 0, 88, 0, 0), (88, .getfield 134, 91, 11, 57), (91, .iload 4, 93, 4, 0), (93, .aload_n 0, 94, 0, 0), (94, .iload 4, 96, 4, 0),
  (96, .iload 5, 98, 5, 0), (98, .iload_n 2, 99, 2, 0), (99, .invokevirtual 376, 102, 261, 3), (102, .iastore, 103, 0, 0), (103, .iinc 4 1, 106, 4, 0), (106, .goto (-103), 109, 3, 0), (109, .iconst 0, 110, 0, 0), (110, .istore 4, 112, 4, 0),
  (112, .iload 4, 114, 4, 0), (114, .sipush 384, 117, 0, 0), (117, .if_icmp .ge 23, 120, 140, 0), (120, .aload_n 0, 121, 0, 0), (121, .getfield 131, 124, 11, 56), (124, .iload 4, 126, 4, 0), (126, .aload_n 0, 127, 0, 0), (127, .getfield 134, 130, 11, 57),
  (130, .iload 4, 132, 4, 0), (132, .iaload, 133, 0, 0), (133, .iastore, 134, 0, 0), (134, .iinc 4 1, 137, 4, 0), (137, .goto (-25), 140, 112, 0), (140, .aload_n 0, 141, 0, 0), (141, .getfield 131, 144, 11, 56), (144, .sipush 384, 147, 0, 0),
  (147, .iconst 0, 148, 0, 0), (148, .iastore, 149, 0, 0), (149, .return_, 150, 0, 0)]
set_option maxRecDepth 20000 in
/-- 260: StoneHomeModel.bestOf(II)I -/
def at_X11_bestOf : List (Nat × am_I) := [(0, .iconst (-1), 1, 0, 0), (1, .istore_n 3, 2, 3, 0), (2, .iconst (-1), 3, 0, 0), (3, .istore 4, 5, 4, 0), (5, .iconst 0, 6, 0, 0), (6, .istore 5, 8, 5, 0), (8, .iload 5, 10, 5, 0), (10, .aload_n 0, 11, 0, 0),
  (11, .getfield 55, 14, 11, 26), (14, .aload_n 0, 15, 0, 0), (15, .getfield 248, 18, 11, 18), (18, .iaload, 19, 0, 0), (19, .if_icmp .gt 63, 22, 82, 0), (22, .iload 5, 24, 5, 0), (24, .aload_n 0, 25, 0, 0), (25, .getfield 55, 28, 11, 26),
  (28, .aload_n 0, 29, 0, 0), (29, .getfield 248, 32, 11, 18), (32, .iaload, 33, 0, 0), (33, .if_icmp .ge 16, 36, 49, 0), (36, .aload_n 0, 37, 0, 0), (37, .iload_n 1, 38, 1, 0), (38, .iload 5, 40, 5, 0), (40, .invokevirtual 372, 43, 237, 2),
  (43, .ifCond .ne 6, 46, 49, 0), (46, .goto 30, 49, 76, 0), (49, .aload_n 0, 50, 0, 0), (50, .iload_n 1, 51, 1, 0), (51, .iload 5, 53, 5, 0), (53, .iload_n 2, 54, 2, 0), (54, .invokevirtual 376, 57, 261, 3), (57, .istore 6, 59, 6, 0),
  (59, .iload 6, 61, 6, 0), (61, .iload 4, 63, 4, 0), (63, .if_icmp .gt 6, 66, 69, 0), (66, .goto 10, 69, 76, 0), (69, .iload 6, 71, 6, 0), (71, .istore 4, 73, 4, 0), (73, .iload 5, 75, 5, 0), (75, .istore_n 3, 76, 3, 0),
  (76, .iinc 5 1, 79, 5, 0), (79, .goto (-71), 82, 8, 0), (82, .iload_n 3, 83, 3, 0), (83, .ireturn, 84, 0, 0)]
set_option maxRecDepth 20000 in
/-- 261: StoneHomeModel.valueOf(III)I -/
def at_X11_valueOf : List (Nat × am_I) := [(0, .iload_n 2, 1, 2, 0), (1, .aload_n 0, 2, 0, 0), (2, .getfield 55, 5, 11, 26), (5, .aload_n 0, 6, 0, 0), (6, .getfield 248, 9, 11, 18), (9, .iaload, 10, 0, 0), (10, .if_icmp .ne 18, 13, 28, 0), (13, .bipush 6, 15, 0, 0),
  (15, .aload_n 0, 16, 0, 0), (16, .getfield 131, 19, 11, 56), (19, .aload_n 0, 20, 0, 0), (20, .iload_n 1, 21, 1, 0), (21, .iload_n 3, 22, 3, 0), (22, .invokevirtual 366, 25, 247, 2), (25, .iaload, 26, 0, 0), (26, .imul, 27, 0, 0),
  (27, .ireturn, 28, 0, 0), (28, .iconst 0, 29, 0, 0), (29, .istore 4, 31, 4, 0), (31, .iconst 0, 32, 0, 0), (32, .istore 5, 34, 5, 0), (34, .iload 5, 36, 5, 0), (36, .aload_n 0, 37, 0, 0), (37, .getfield 58, 40, 11, 27),
  (40, .iconst 4, 41, 0, 0), (41, .aload_n 0, 42, 0, 0), (42, .getfield 248, 45, 11, 18), (45, .imul, 46, 0, 0), (46, .iload_n 2, 47, 2, 0), (47, .iadd, 48, 0, 0), (48, .iaload, 49, 0, 0), (49, .if_icmp .ge 48, 52, 97, 0),
  (52, .iload 4, 54, 4, 0), (54, .aload_n 0, 55, 0, 0), (55, .getfield 61, 58, 11, 28), (58, .bipush 6, 60, 0, 0), (60, .iconst 4, 61, 0, 0), (61, .aload_n 0, 62, 0, 0), (62, .getfield 248, 65, 11, 18), (65, .imul, 66, 0, 0),
  (66, .iload_n 2, 67, 2, 0), (67, .iadd, 68, 0, 0), (68, .imul, 69, 0, 0), (69, .iload 5, 71, 5, 0), (71, .iadd, 72, 0, 0), (72, .iaload, 73, 0, 0), (73, .aload_n 0, 74, 0, 0), (74, .getfield 131, 77, 11, 56),
  (77, .aload_n 0, 78, 0, 0), (78, .iload_n 1, 79, 1, 0), (79, .iload_n 2, 80, 2, 0), (80, .iload 5, 82, 5, 0), (82, .iload_n 3, 83, 3, 0), (83, .invokevirtual 369, 86, 239, 4), (86, .iaload, 87, 0, 0), (87, .imul, 88, 0, 0),
  (88, .iadd, 89, 0, 0), (89, .istore 4, 91, 4, 0), (91, .iinc 5 1, 94, 5, 0), (94, .goto (-60), 97, 34, 0), (97, .iload 4, 99, 4, 0), (99, .ireturn, 100, 0, 0)]
set_option maxRecDepth 20000 in
/-- 262: StoneHomeModel.lineOf(IIZ)I -/
def at_X11_lineOf : List (Nat × am_I) := [(0, .iload_n 0, 1, 0, 0), (1, .iload_n 1, 2, 1, 0), (2, .invokestatic 427, 5, 263, 2), (5, .istore_n 3, 6, 3, 0), (6, .iload_n 2, 7, 2, 0), (7, .ifCond .eq 7, 10, 14, 0), (10, .iload_n 1, 11, 1, 0), (11, .goto 4, 14, 15, 0),
  (14, .iload_n 0, 15, 0, 0), (15, .iload_n 3, 16, 3, 0), (16, .idiv, 17, 0, 0), (17, .ireturn, 18, 0, 0)]
set_option maxRecDepth 20000 in
/-- 263: StoneHomeModel.common(II)I -/
def at_X11_common : List (Nat × am_I) := [(0, .iload_n 0, 1, 0, 0), (1, .istore_n 2, 2, 2, 0), (2, .iload_n 1, 3, 1, 0), (3, .istore_n 3, 4, 3, 0), (4, .iload_n 3, 5, 3, 0), (5, .ifCond .eq 16, 8, 21, 0), (8, .iload_n 2, 9, 2, 0), (9, .iload_n 3, 10, 3, 0),
  (10, .irem, 11, 0, 0), (11, .istore 4, 13, 4, 0), (13, .iload_n 3, 14, 3, 0), (14, .istore_n 2, 15, 2, 0), (15, .iload 4, 17, 4, 0), (17, .istore_n 3, 18, 3, 0), (18, .goto (-14), 21, 4, 0), (21, .iload_n 2, 22, 2, 0),
  (22, .ireturn, 23, 0, 0)]
set_option maxRecDepth 20000 in
/-- 264: StoneHomeModel.best(I)I -/
def at_X11_best : List (Nat × am_I) := [(0, .iload_n 1, 1, 1, 0), (1, .iconst 1, 2, 0, 0), (2, .bipush 10, 4, 0, 0), (4, .invokestatic 353, 7, 230, 3), (7, .ifCond .ne 5, 10, 12, 0), (10, .iconst (-1), 11, 0, 0), (11, .ireturn, 12, 0, 0), (12, .aload_n 0, 13, 0, 0),
  (13, .invokevirtual 413, 16, 236, 0), (16, .ifCond .eq 6, 19, 22, 0), (19, .bipush (-2), 21, 0, 0), (21, .ireturn, 22, 0, 0), (22, .aload_n 0, 23, 0, 0), (23, .iload_n 1, 24, 1, 0), (24, .iconst 1, 25, 0, 0), (25, .iconst (-1), 26, 0, 0),
  (26, .aload_n 0, 27, 0, 0), (27, .getfield 125, 30, 11, 53), (30, .iconst 5, 31, 0, 0), (31, .iaload, 32, 0, 0), (32, .invokevirtual 395, 35, 256, 4), (35, .aload_n 0, 36, 0, 0), (36, .aload_n 0, 37, 0, 0), (37, .invokevirtual 399, 40, 221, 0),
  (40, .aload_n 0, 41, 0, 0), (41, .getfield 125, 44, 11, 53), (44, .iconst 5, 45, 0, 0), (45, .iaload, 46, 0, 0), (46, .invokevirtual 382, 49, 260, 2), (49, .ireturn, 50, 0, 0)]
set_option maxRecDepth 20000 in
/-- 265: StoneHomeModel.sure(I)I -/
def at_X11_sure : List (Nat × am_I) := [(0, .iload_n 1, 1, 1, 0), (1, .invokestatic 430, 4, 254, 1), (4, .ifCond .ne 5, 7, 9, 0), (7, .iconst (-1), 8, 0, 0), (8, .ireturn, 9, 0, 0), (9, .aload_n 0, 10, 0, 0), (10, .iload_n 1, 11, 1, 0), (11, .invokevirtual 433, 14, 255, 1),
  (14, .aload_n 0, 15, 0, 0), (15, .getfield 131, 18, 11, 56), (18, .aload_n 0, 19, 0, 0), (19, .invokevirtual 399, 22, 221, 0), (22, .iaload, 23, 0, 0), (23, .iload_n 1, 24, 1, 0), (24, .invokestatic 388, 27, 258, 1), (27, .if_icmp .ne 7, 30, 34, 0),
  (30, .iconst 1, 31, 0, 0), (31, .goto 4, 34, 35, 0), (34, .iconst 0, 35, 0, 0), (35, .ireturn, 36, 0, 0)]
set_option maxRecDepth 20000 in
/-- 266: StoneHomeModel.least(I)I -/
def at_X11_least : List (Nat × am_I) := [(0, .iload_n 1, 1, 1, 0), (1, .iconst 0, 2, 0, 0), (2, .bipush 100, 4, 0, 0), (4, .invokestatic 353, 7, 230, 3), (7, .ifCond .ne 5, 10, 12, 0), (10, .iconst (-1), 11, 0, 0), (11, .ireturn, 12, 0, 0), (12, .iconst 0, 13, 0, 0),
  (13, .istore_n 2, 14, 2, 0), (14, .iload_n 2, 15, 2, 0), (15, .bipush 10, 17, 0, 0), (17, .if_icmp .gt 44, 20, 61, 0), (20, .aload_n 0, 21, 0, 0), (21, .iload_n 2, 22, 2, 0), (22, .invokevirtual 433, 25, 255, 1), (25, .ldc2_w 440, 28, 0, 100),
  (28, .aload_n 0, 29, 0, 0), (29, .getfield 131, 32, 11, 56), (32, .aload_n 0, 33, 0, 0), (33, .invokevirtual 399, 36, 221, 0), (36, .iaload, 37, 0, 0), (37, .i2l, 38, 0, 0), (38, .lmul, 39, 0, 0), (39, .lstore_n 3, 40, 3, 0),
  (40, .lload_n 3, 41, 3, 0), (41, .iload_n 1, 42, 1, 0), (42, .i2l, 43, 0, 0), (43, .iload_n 2, 44, 2, 0), (44, .invokestatic 388, 47, 258, 1), (47, .i2l, 48, 0, 0), (48, .lmul, 49, 0, 0), (49, .lcmp, 50, 0, 0),
  (50, .ifCond .lt 5, 53, 55, 0), (53, .iload_n 2, 54, 2, 0), (54, .ireturn, 55, 0, 0), (55, .iinc 2 1, 58, 2, 0), (58, .goto (-44), 61, 14, 0), (61, .bipush (-2), 63, 0, 0), (63, .ireturn, 64, 0, 0)]
set_option maxRecDepth 20000 in
/-- 267: StoneHomeModel.rule(IIZ)I -/
def at_X11_rule : List (Nat × am_I) := [(0, .aload_n 0, 1, 0, 0), (1, .iload_n 1, 2, 1, 0), (2, .iload_n 2, 3, 2, 0), (3, .invokevirtual 442, 6, 268, 2), (6, .ifCond .ne 5, 9, 11, 0), (9, .iconst (-1), 10, 0, 0), (10, .ireturn, 11, 0, 0), (11, .aload_n 0, 12, 0, 0),
  (12, .iload_n 2, 13, 2, 0), (13, .iconst 0, 14, 0, 0), (14, .iload_n 1, 15, 1, 0), (15, .aload_n 0, 16, 0, 0), (16, .getfield 125, 19, 11, 53), (19, .iconst 5, 20, 0, 0), (20, .iaload, 21, 0, 0), (21, .invokevirtual 395, 24, 256, 4),
  (24, .aload_n 0, 25, 0, 0), (25, .getfield 131, 28, 11, 56), (28, .aload_n 0, 29, 0, 0), (29, .invokevirtual 399, 32, 221, 0), (32, .iaload, 33, 0, 0), (33, .iload_n 2, 34, 2, 0), (34, .invokestatic 388, 37, 258, 1), (37, .iload_n 3, 38, 3, 0),
  (38, .invokestatic 436, 41, 262, 3), (41, .ireturn, 42, 0, 0)]
set_option maxRecDepth 20000 in
/-- 268: StoneHomeModel.isRule(II)Z -/
def at_X11_isRule : List (Nat × am_I) := [(0, .iload_n 1, 1, 1, 0), (1, .iconst 0, 2, 0, 0), (2, .aload_n 0, 3, 0, 0), (3, .getfield 55, 6, 11, 26), (6, .aload_n 0, 7, 0, 0), (7, .getfield 248, 10, 11, 18), (10, .iaload, 11, 0, 0), (11, .iconst 1, 12, 0, 0),
  (12, .isub, 13, 0, 0), (13, .invokestatic 353, 16, 230, 3), (16, .ifCond .eq 14, 19, 30, 0), (19, .iload_n 2, 20, 2, 0), (20, .invokestatic 430, 23, 254, 1), (23, .ifCond .eq 7, 26, 30, 0), (26, .iconst 1, 27, 0, 0), (27, .goto 4, 30, 31, 0),
  (30, .iconst 0, 31, 0, 0), (31, .ireturn, 32, 0, 0)]
set_option maxRecDepth 20000 in
/-- 269: StoneHomeModel.comes(IIIIZ)I -/
def at_X11_comes : List (Nat × am_I) := [(0, .aload_n 0, 1, 0, 0), (1, .iload_n 1, 2, 1, 0), (2, .iload_n 2, 3, 2, 0), (3, .invokevirtual 442, 6, 268, 2), (6, .ifCond .eq 13, 9, 19, 0), (9, .aload_n 0, 10, 0, 0), (10, .iload_n 3, 11, 3, 0), (11, .iload 4, 13, 4, 0),
  (13, .invokevirtual 403, 16, 229, 2), (16, .ifCond .ne 5, 19, 21, 0), (19, .iconst (-1), 20, 0, 0), (20, .ireturn, 21, 0, 0), (21, .aload_n 0, 22, 0, 0), (22, .iload_n 1, 23, 1, 0), (23, .iload_n 2, 24, 2, 0), (24, .invokevirtual 448, 27, 270, 2),
  (27, .iconst 0, 28, 0, 0), (28, .istore 6, 30, 6, 0), (30, .iconst 0, 31, 0, 0), (31, .istore 7, 33, 7, 0), (33, .iload 7, 35, 7, 0), (35, .bipush 12, 37, 0, 0), (37, .if_icmp .ge 30, 40, 67, 0), (40, .iload 6, 42, 6, 0),
  (42, .aload_n 0, 43, 0, 0), (43, .getfield 131, 46, 11, 56), (46, .iload_n 3, 47, 3, 0), (47, .iload 4, 49, 4, 0), (49, .iconst 0, 50, 0, 0), (50, .iconst 0, 51, 0, 0), (51, .invokestatic 337, 54, 222, 4), (54, .iload 7, 56, 7, 0),
  (56, .iadd, 57, 0, 0), (57, .iaload, 58, 0, 0), (58, .iadd, 59, 0, 0), (59, .istore 6, 61, 6, 0), (61, .iinc 7 1, 64, 7, 0), (64, .goto (-31), 67, 33, 0), (67, .iload 6, 69, 6, 0), (69, .iload_n 2, 70, 2, 0),
  (70, .invokestatic 388, 73, 258, 1), (73, .iload 5, 75, 5, 0), (75, .invokestatic 436, 78, 262, 3), (78, .ireturn, 79, 0, 0)]
set_option maxRecDepth 20000 in
/-- 270: StoneHomeModel.spreads(II)V -/
def at_X11_spreads : List (Nat × am_I) := [(0, .iconst 0, 1, 0, 0), (1, .istore_n 3, 2, 3, 0), (2, .iload_n 3, 3, 3, 0), (3, .sipush 385, 6, 0, 0), (6, .if_icmp .ge 16, 9, 22, 0), (9, .aload_n 0, 10, 0, 0), (10, .getfield 131, 13, 11, 56), (13, .iload_n 3, 14, 3, 0),
  (14, .iconst 0, 15, 0, 0), (15, .iastore, 16, 0, 0), (16, .iinc 3 1, 19, 3, 0), (19, .goto (-17), 22, 2, 0), (22, .aload_n 0, 23, 0, 0), (23, .getfield 131, 26, 11, 56), (26, .aload_n 0, 27, 0, 0), (27, .invokevirtual 399, 30, 221, 0),
  (30, .iconst 1, 31, 0, 0), (31, .iastore, 32, 0, 0), (32, .iconst 0, 33, 0, 0), (33, .istore_n 3, 34, 3, 0), (34, .iload_n 3, 35, 3, 0), (35, .iload_n 2, 36, 2, 0), (36, .if_icmp .ge 121, 39, 157, 0), (39, .aload_n 0, 40, 0, 0),
  (40, .getfield 125, 43, 11, 53), (43, .iconst 5, 44, 0, 0), (44, .iaload, 45, 0, 0), (45, .iload_n 3, 46, 3, 0), (46, .aload_n 0, 47, 0, 0), (47, .getfield 82, 50, 11, 35), (50, .aload_n 0, 51, 0, 0), (51, .getfield 248, 54, 11, 18),
  (54, .iaload, 55, 0, 0), (55, .imul, 56, 0, 0), (56, .iadd, 57, 0, 0), (57, .istore 4, 59, 4, 0), (59, .iconst 0, 60, 0, 0), (60, .istore 5, 62, 5, 0), (62, .iload 5, 64, 5, 0), (64, .sipush 385, 67, 0, 0),
  (67, .if_icmp .ge 17, 70, 84, 0), (70, .aload_n 0, 71, 0, 0), (71, .getfield 134, 74, 11, 57), (74, .iload 5, 76, 5, 0), (76, .iconst 0, 77, 0, 0), (77, .iastore, 78, 0, 0), (78, .iinc 5 1, 81, 5, 0), (81, .goto (-19), 84, 62, 0),
  (84, .iconst 0, 85, 0, 0), (85, .istore 5, 87, 5, 0), (87, .iload 5, 89, 5, 0), (89, .sipush 385, 92, 0, 0), (92, .if_icmp .ge 28, 95, 120, 0), (95, .aload_n 0, 96, 0, 0), (96, .getfield 131, 99, 11, 56), (99, .iload 5, 101, 5, 0),
  (101, .iaload, 102, 0, 0), (102, .ifCond .le 12, 105, 114, 0), (105, .aload_n 0, 106, 0, 0), (106, .iload 5, 108, 5, 0), (108, .iload_n 1, 109, 1, 0), (109, .iload 4, 111, 4, 0), (111, .invokevirtual 445, 114, 271, 3), (114, .iinc 5 1, 117, 5, 0),
  (117, .goto (-30), 120, 87, 0), (120, .iconst 0, 121, 0, 0), (121, .istore 5, 123, 5, 0), (123, .iload 5, 125, 5, 0), (125, .sipush 385, 128, 0, 0), (128, .if_icmp .ge 23, 131, 151, 0), (131, .aload_n 0, 132, 0, 0), (132, .getfield 131, 135, 11, 56),
  (135, .iload 5, 137, 5, 0), (137, .aload_n 0, 138, 0, 0), (138, .getfield 134, 141, 11, 57), (141, .iload 5, 143, 5, 0), (143, .iaload, 144, 0, 0), (144, .iastore, 145, 0, 0), (145, .iinc 5 1, 148, 5, 0), (148, .goto (-25), 151, 123, 0),
  (151, .iinc 3 1, 154, 3, 0), (154, .goto (-120), 157, 34, 0), (157, .return_, 158, 0, 0)]
set_option maxRecDepth 20000 in
/-- 271: StoneHomeModel.spreadsOne(III)V -/
def at_X11_spreadsOne : List (Nat × am_I) := [(0, .iload_n 1, 1, 1, 0), (1, .sipush 384, 4, 0, 0), (4, .if_icmp .eq 13, 7, 17, 0), (7, .aload_n 0, 8, 0, 0), (8, .iload_n 1, 9, 1, 0), (9, .invokevirtual 334, 12, 224, 1), (12, .bipush 6, 14, 0, 0), (14, .if_icmp .ne 24, 17, 38, 0),
  (17, .aload_n 0, 18, 0, 0), (18, .getfield 134, 21, 11, 57), (21, .iload_n 1, 22, 1, 0), (22, .dup2, 23, 0, 0), (23, .iaload, 24, 0, 0), (24, .bipush 6, 26, 0, 0), (26, .aload_n 0, 27, 0, 0), (27, .getfield 131, 30, 11, 56),
  (30, .iload_n 1, 31, 1, 0), (31, .iaload, 32, 0, 0), (32, .imul, 33, 0, 0), (33, .iadd, 34, 0, 0), (34, .iastore, 35, 0, 0), (35, .goto 108, 38, 143, 0), (38, .aload_n 0, 39, 0, 0), (39, .iload_n 1, 40, 1, 0),
  (40, .iload_n 2, 41, 2, 0), (41, .invokevirtual 372, 44, 237, 2), (44, .ifCond .ne 29, 47, 73, 0), (47, .aload_n 0, 48, 0, 0), (48, .getfield 134, 51, 11, 57), (51, .aload_n 0, 52, 0, 0), (52, .iload_n 1, 53, 1, 0), (53, .iload_n 3, 54, 3, 0),
  (54, .invokevirtual 366, 57, 247, 2), (57, .dup2, 58, 0, 0), (58, .iaload, 59, 0, 0), (59, .bipush 6, 61, 0, 0), (61, .aload_n 0, 62, 0, 0), (62, .getfield 131, 65, 11, 56), (65, .iload_n 1, 66, 1, 0), (66, .iaload, 67, 0, 0),
  (67, .imul, 68, 0, 0), (68, .iadd, 69, 0, 0), (69, .iastore, 70, 0, 0), (70, .goto 73, 73, 143, 0), (73, .iconst 0, 74, 0, 0), (74, .istore 4, 76, 4, 0), (76, .iload 4, 78, 4, 0), (78, .aload_n 0, 79, 0, 0),
  (79, .getfield 58, 82, 11, 27), (82, .iconst 4, 83, 0, 0), (83, .aload_n 0, 84, 0, 0), (84, .getfield 248, 87, 11, 18), (87, .imul, 88, 0, 0), (88, .iload_n 2, 89, 2, 0), (89, .iadd, 90, 0, 0), (90, .iaload, 91, 0, 0),
  (91, .if_icmp .ge 52, 94, 143, 0), (94, .aload_n 0, 95, 0, 0), (95, .getfield 134, 98, 11, 57), (98, .aload_n 0, 99, 0, 0), (99, .iload_n 1, 100, 1, 0), (100, .iload_n 2, 101, 2, 0), (101, .iload 4, 103, 4, 0), (103, .iload_n 3, 104, 3, 0),
  (104, .invokevirtual 369, 107, 239, 4), (107, .dup2, 108, 0, 0), (108, .iaload, 109, 0, 0), (109, .aload_n 0, 110, 0, 0), (110, .getfield 61, 113, 11, 28), (113, .bipush 6, 115, 0, 0), (115, .iconst 4, 116, 0, 0), (116, .aload_n 0, 117, 0, 0),
  (117, .getfield 248, 120, 11, 18), (120, .imul, 121, 0, 0), (121, .iload_n 2, 122, 2, 0), (122, .iadd, 123, 0, 0), (123, .imul, 124, 0, 0), (124, .iload 4, 126, 4, 0), (126, .iadd, 127, 0, 0), (127, .iaload, 128, 0, 0),
  (128, .aload_n 0, 129, 0, 0), (129, .getfield 131, 132, 11, 56), (132, .iload_n 1, 133, 1, 0), (133, .iaload, 134, 0, 0), (134, .imul, 135, 0, 0), (135, .iadd, 136, 0, 0), (136, .iastore, 137, 0, 0), (137, .iinc 4 1, 140, 4, 0),
  (140, .goto (-64), 143, 76, 0), (143, .return_, 144, 0, 0)]
set_option maxRecDepth 20000 in
/-- 272: StoneHomeModel.worth(IZZ)I -/
def at_X11_worth : List (Nat × am_I) := [(0, .iload_n 1, 1, 1, 0), (1, .invokestatic 430, 4, 254, 1), (4, .ifCond .ne 5, 7, 9, 0), (7, .iconst (-1), 8, 0, 0), (8, .ireturn, 9, 0, 0), (9, .aload_n 0, 10, 0, 0), (10, .iload_n 1, 11, 1, 0), (11, .invokevirtual 433, 14, 255, 1),
  (14, .aload_n 0, 15, 0, 0), (15, .invokevirtual 413, 18, 236, 0), (18, .ifCond .eq 10, 21, 28, 0), (21, .iconst 0, 22, 0, 0), (22, .iconst 1, 23, 0, 0), (23, .iload_n 3, 24, 3, 0), (24, .invokestatic 436, 27, 262, 3), (27, .ireturn, 28, 0, 0),
  (28, .aload_n 0, 29, 0, 0), (29, .invokevirtual 399, 32, 221, 0), (32, .istore 4, 34, 4, 0), (34, .iload_n 2, 35, 2, 0), (35, .ifCond .eq 15, 38, 50, 0), (38, .aload_n 0, 39, 0, 0), (39, .getfield 131, 42, 11, 56), (42, .iload 4, 44, 4, 0),
  (44, .iconst 1, 45, 0, 0), (45, .iadd, 46, 0, 0), (46, .iaload, 47, 0, 0), (47, .goto 10, 50, 57, 0), (50, .aload_n 0, 51, 0, 0), (51, .getfield 131, 54, 11, 56), (54, .iload 4, 56, 4, 0), (56, .iaload, 57, 0, 0),
  (57, .istore 5, 59, 5, 0), (59, .iconst 0, 60, 0, 0), (60, .istore 6, 62, 6, 0), (62, .iload 6, 64, 6, 0), (64, .iconst 4, 65, 0, 0), (65, .if_icmp .ge 49, 68, 114, 0), (68, .iload_n 2, 69, 2, 0), (69, .ifCond .ne 45, 72, 114, 0),
  (72, .aload_n 0, 73, 0, 0), (73, .iload 4, 75, 4, 0), (75, .iload 6, 77, 6, 0), (77, .invokevirtual 424, 80, 249, 2), (80, .istore 7, 82, 7, 0), (82, .iload 7, 84, 7, 0), (84, .ifCond .lt 24, 87, 108, 0), (87, .aload_n 0, 88, 0, 0),
  (88, .getfield 131, 91, 11, 56), (91, .iload 7, 93, 7, 0), (93, .iaload, 94, 0, 0), (94, .iload 5, 96, 5, 0), (96, .if_icmp .le 12, 99, 108, 0), (99, .aload_n 0, 100, 0, 0), (100, .getfield 131, 103, 11, 56), (103, .iload 7, 105, 7, 0),
  (105, .iaload, 106, 0, 0), (106, .istore 5, 108, 5, 0), (108, .iinc 6 1, 111, 6, 0), (111, .goto (-49), 114, 62, 0), (114, .iload 5, 116, 5, 0), (116, .aload_n 0, 117, 0, 0), (117, .getfield 131, 120, 11, 56), (120, .iload 4, 122, 4, 0),
  (122, .iaload, 123, 0, 0), (123, .isub, 124, 0, 0), (124, .iload_n 1, 125, 1, 0), (125, .invokestatic 388, 128, 258, 1), (128, .iload_n 3, 129, 3, 0), (129, .invokestatic 436, 132, 262, 3), (132, .ireturn, 133, 0, 0)]
set_option maxRecDepth 20000 in
/-- 273: StoneHomeModel.face(I)I -/
def at_X11_face : List (Nat × am_I) := [(0, .iload_n 1, 1, 1, 0), (1, .invokestatic 430, 4, 254, 1), (4, .ifCond .ne 5, 7, 9, 0), (7, .iconst (-1), 8, 0, 0), (8, .ireturn, 9, 0, 0), (9, .aload_n 0, 10, 0, 0), (10, .invokevirtual 413, 13, 236, 0), (13, .ifCond .eq 6, 16, 19, 0),
  (16, .bipush (-2), 18, 0, 0), (18, .ireturn, 19, 0, 0), (19, .aload_n 0, 20, 0, 0), (20, .iload_n 1, 21, 1, 0), (21, .invokevirtual 433, 24, 255, 1), (24, .iconst 0, 25, 0, 0), (25, .istore_n 2, 26, 2, 0), (26, .aload_n 0, 27, 0, 0),
  (27, .getfield 125, 30, 11, 53), (30, .iconst 0, 31, 0, 0), (31, .iaload, 32, 0, 0), (32, .aload_n 0, 33, 0, 0), (33, .getfield 125, 36, 11, 53), (36, .iconst 1, 37, 0, 0), (37, .iaload, 38, 0, 0), (38, .iconst 0, 39, 0, 0),
  (39, .aload_n 0, 40, 0, 0), (40, .getfield 125, 43, 11, 53), (43, .iconst 3, 44, 0, 0), (44, .iaload, 45, 0, 0), (45, .invokestatic 337, 48, 222, 4), (48, .istore_n 3, 49, 3, 0), (49, .iconst 1, 50, 0, 0), (50, .istore 4, 52, 4, 0),
  (52, .iload 4, 54, 4, 0), (54, .aload_n 0, 55, 0, 0), (55, .getfield 52, 58, 11, 25), (58, .aload_n 0, 59, 0, 0), (59, .getfield 248, 62, 11, 18), (62, .iaload, 63, 0, 0), (63, .if_icmp .ge 36, 66, 99, 0), (66, .aload_n 0, 67, 0, 0),
  (67, .getfield 131, 70, 11, 56), (70, .iload_n 3, 71, 3, 0), (71, .iconst 4, 72, 0, 0), (72, .iload 4, 74, 4, 0), (74, .imul, 75, 0, 0), (75, .iadd, 76, 0, 0), (76, .iaload, 77, 0, 0), (77, .aload_n 0, 78, 0, 0),
  (78, .getfield 131, 81, 11, 56), (81, .iload_n 3, 82, 3, 0), (82, .iconst 4, 83, 0, 0), (83, .iload_n 2, 84, 2, 0), (84, .imul, 85, 0, 0), (85, .iadd, 86, 0, 0), (86, .iaload, 87, 0, 0), (87, .if_icmp .le 6, 90, 93, 0),
  (90, .iload 4, 92, 4, 0), (92, .istore_n 2, 93, 2, 0), (93, .iinc 4 1, 96, 4, 0), (96, .goto (-44), 99, 52, 0), (99, .iload_n 2, 100, 2, 0), (100, .ireturn, 101, 0, 0)]
set_option maxRecDepth 20000 in
/-- 274: StoneHomeModel.side(I)I -/
def at_X11_side : List (Nat × am_I) := [(0, .iload_n 1, 1, 1, 0), (1, .invokestatic 430, 4, 254, 1), (4, .ifCond .ne 5, 7, 9, 0), (7, .iconst (-1), 8, 0, 0), (8, .ireturn, 9, 0, 0), (9, .aload_n 0, 10, 0, 0), (10, .invokevirtual 413, 13, 236, 0), (13, .ifCond .eq 6, 16, 19, 0),
  (16, .bipush (-2), 18, 0, 0), (18, .ireturn, 19, 0, 0), (19, .aload_n 0, 20, 0, 0), (20, .iload_n 1, 21, 1, 0), (21, .invokevirtual 433, 24, 255, 1), (24, .bipush (-2), 26, 0, 0), (26, .istore_n 2, 27, 2, 0), (27, .iconst 0, 28, 0, 0),
  (28, .istore_n 3, 29, 3, 0), (29, .iload_n 3, 30, 3, 0), (30, .aload_n 0, 31, 0, 0), (31, .getfield 43, 34, 11, 22), (34, .aload_n 0, 35, 0, 0), (35, .getfield 248, 38, 11, 18), (38, .iaload, 39, 0, 0), (39, .if_icmp .ge 100, 42, 139, 0),
  (42, .aload_n 0, 43, 0, 0), (43, .aload_n 0, 44, 0, 0), (44, .getfield 125, 47, 11, 53), (47, .iconst 0, 48, 0, 0), (48, .iaload, 49, 0, 0), (49, .iload_n 3, 50, 3, 0), (50, .invokevirtual 331, 53, 227, 2), (53, .istore 4, 55, 4, 0),
  (55, .iload 4, 57, 4, 0), (57, .iconst 4, 58, 0, 0), (58, .if_icmp .eq 75, 61, 133, 0), (61, .iload 4, 63, 4, 0), (63, .iconst 5, 64, 0, 0), (64, .if_icmp .ne 6, 67, 70, 0), (67, .goto 66, 70, 133, 0), (70, .iload_n 2, 71, 2, 0),
  (71, .ifCond .lt 60, 74, 131, 0), (74, .aload_n 0, 75, 0, 0), (75, .getfield 131, 78, 11, 56), (78, .aload_n 0, 79, 0, 0), (79, .getfield 125, 82, 11, 53), (82, .iconst 0, 83, 0, 0), (83, .iaload, 84, 0, 0), (84, .iload_n 3, 85, 3, 0),
  (85, .aload_n 0, 86, 0, 0), (86, .getfield 125, 89, 11, 53), (89, .iconst 2, 90, 0, 0), (90, .iaload, 91, 0, 0), (91, .aload_n 0, 92, 0, 0), (92, .getfield 125, 95, 11, 53), (95, .iconst 3, 96, 0, 0), (96, .iaload, 97, 0, 0),
  (97, .invokestatic 337, 100, 222, 4), (100, .iaload, 101, 0, 0), (101, .aload_n 0, 102, 0, 0), (102, .getfield 131, 105, 11, 56), (105, .aload_n 0, 106, 0, 0), (106, .getfield 125, 109, 11, 53), (109, .iconst 0, 110, 0, 0), (110, .iaload, 111, 0, 0),
  (111, .iload_n 2, 112, 2, 0), (112, .aload_n 0, 113, 0, 0), (113, .getfield 125, 116, 11, 53), (116, .iconst 2, 117, 0, 0), (117, .iaload, 118, 0, 0), (118, .aload_n 0, 119, 0, 0), (119, .getfield 125, 122, 11, 53), (122, .iconst 3, 123, 0, 0),
  (123, .iaload, 124, 0, 0), (124, .invokestatic 337, 127, 222, 4), (127, .iaload, 128, 0, 0), (128, .if_icmp .le 5, 131, 133, 0), (131, .iload_n 3, 132, 3, 0), (132, .istore_n 2, 133, 2, 0), (133, .iinc 3 1, 136, 3, 0), (136, .goto (-107), 139, 29, 0),
  (139, .iload_n 2, 140, 2, 0), (140, .ireturn, 141, 0, 0)]
set_option maxRecDepth 20000 in
/-- 275: StoneHomeModel.goBy(I)I -/
def at_X11_goBy : List (Nat × am_I) := [(0, .iload_n 1, 1, 1, 0), (1, .invokestatic 430, 4, 254, 1), (4, .ifCond .ne 5, 7, 9, 0), (7, .iconst (-1), 8, 0, 0), (8, .ireturn, 9, 0, 0), (9, .aload_n 0, 10, 0, 0), (10, .invokevirtual 413, 13, 236, 0), (13, .ifCond .eq 6, 16, 19, 0),
  (16, .bipush (-2), 18, 0, 0), (18, .ireturn, 19, 0, 0), (19, .aload_n 0, 20, 0, 0), (20, .invokevirtual 399, 23, 221, 0), (23, .istore_n 2, 24, 2, 0), (24, .iconst 0, 25, 0, 0), (25, .istore_n 3, 26, 3, 0), (26, .iconst (-1), 27, 0, 0),
  (27, .istore 4, 29, 4, 0), (29, .iconst 0, 30, 0, 0), (30, .istore 5, 32, 5, 0), (32, .iload 5, 34, 5, 0), (34, .iconst 5, 35, 0, 0), (35, .if_icmp .gt 76, 38, 111, 0), (38, .aload_n 0, 39, 0, 0), (39, .getfield 125, 42, 11, 53),
  (42, .iconst 5, 43, 0, 0), (43, .iaload, 44, 0, 0), (44, .iload 5, 46, 5, 0), (46, .aload_n 0, 47, 0, 0), (47, .getfield 82, 50, 11, 35), (50, .aload_n 0, 51, 0, 0), (51, .getfield 248, 54, 11, 18), (54, .iaload, 55, 0, 0),
  (55, .imul, 56, 0, 0), (56, .iadd, 57, 0, 0), (57, .istore 6, 59, 6, 0), (59, .aload_n 0, 60, 0, 0), (60, .iload_n 1, 61, 1, 0), (61, .iconst 0, 62, 0, 0), (62, .iconst (-1), 63, 0, 0), (63, .iload 6, 65, 6, 0),
  (65, .invokevirtual 395, 68, 256, 4), (68, .aload_n 0, 69, 0, 0), (69, .getfield 131, 72, 11, 56), (72, .iload_n 2, 73, 2, 0), (73, .iaload, 74, 0, 0), (74, .iload 4, 76, 4, 0), (76, .if_icmp .le 14, 79, 90, 0), (79, .aload_n 0, 80, 0, 0),
  (80, .getfield 131, 83, 11, 56), (83, .iload_n 2, 84, 2, 0), (84, .iaload, 85, 0, 0), (85, .istore 4, 87, 4, 0), (87, .iload 5, 89, 5, 0), (89, .istore_n 3, 90, 3, 0), (90, .iload_n 2, 91, 2, 0), (91, .sipush 384, 94, 0, 0),
  (94, .if_icmp .eq 11, 97, 105, 0), (97, .aload_n 0, 98, 0, 0), (98, .iload_n 2, 99, 2, 0), (99, .iload 6, 101, 6, 0), (101, .invokevirtual 366, 104, 247, 2), (104, .istore_n 2, 105, 2, 0), (105, .iinc 5 1, 108, 5, 0), (108, .goto (-76), 111, 32, 0),
  (111, .iload_n 3, 112, 3, 0), (112, .ireturn, 113, 0, 0)]
set_option maxRecDepth 20000 in
/-- 276: StoneHomeModel.plan(III)I -/
def at_X11_plan : List (Nat × am_I) := [(0, .iload_n 1, 1, 1, 0), (1, .iconst 1, 2, 0, 0), (2, .bipush 10, 4, 0, 0), (4, .invokestatic 353, 7, 230, 3), (7, .ifCond .eq 12, 10, 19, 0), (10, .aload_n 0, 11, 0, 0), (11, .iload_n 2, 12, 2, 0), (12, .iload_n 3, 13, 3, 0),
  (13, .invokevirtual 403, 16, 229, 2), (16, .ifCond .ne 5, 19, 21, 0), (19, .iconst (-1), 20, 0, 0), (20, .ireturn, 21, 0, 0), (21, .aload_n 0, 22, 0, 0), (22, .iload_n 2, 23, 2, 0), (23, .iload_n 3, 24, 3, 0), (24, .invokevirtual 331, 27, 227, 2),
  (27, .istore 4, 29, 4, 0), (29, .iload 4, 31, 4, 0), (31, .bipush 6, 33, 0, 0), (33, .if_icmp .eq 15, 36, 48, 0), (36, .iload 4, 38, 4, 0), (38, .iconst 4, 39, 0, 0), (39, .if_icmp .eq 9, 42, 48, 0), (42, .iload 4, 44, 4, 0),
  (44, .iconst 5, 45, 0, 0), (45, .if_icmp .ne 6, 48, 51, 0), (48, .bipush (-2), 50, 0, 0), (50, .ireturn, 51, 0, 0), (51, .aload_n 0, 52, 0, 0), (52, .iload_n 1, 53, 1, 0), (53, .iconst 1, 54, 0, 0), (54, .iconst (-1), 55, 0, 0),
  (55, .aload_n 0, 56, 0, 0), (56, .getfield 125, 59, 11, 53), (59, .iconst 5, 60, 0, 0), (60, .iaload, 61, 0, 0), (61, .invokevirtual 395, 64, 256, 4), (64, .aload_n 0, 65, 0, 0), (65, .iload_n 2, 66, 2, 0), (66, .iload_n 3, 67, 3, 0),
  (67, .aload_n 0, 68, 0, 0), (68, .getfield 125, 71, 11, 53), (71, .iconst 2, 72, 0, 0), (72, .iaload, 73, 0, 0), (73, .aload_n 0, 74, 0, 0), (74, .getfield 125, 77, 11, 53), (77, .iconst 3, 78, 0, 0), (78, .iaload, 79, 0, 0),
  (79, .invokestatic 337, 82, 222, 4), (82, .aload_n 0, 83, 0, 0), (83, .getfield 125, 86, 11, 53), (86, .iconst 5, 87, 0, 0), (87, .iaload, 88, 0, 0), (88, .invokevirtual 382, 91, 260, 2), (91, .ireturn, 92, 0, 0)]
set_option maxRecDepth 20000 in
/-- 277: StoneHomeModel.trap(I)I -/
def at_X11_trap : List (Nat × am_I) := [(0, .iload_n 1, 1, 1, 0), (1, .invokestatic 430, 4, 254, 1), (4, .ifCond .ne 5, 7, 9, 0), (7, .iconst (-1), 8, 0, 0), (8, .ireturn, 9, 0, 0), (9, .aload_n 0, 10, 0, 0), (10, .iload_n 1, 11, 1, 0), (11, .invokevirtual 433, 14, 255, 1),
  (14, .iconst 0, 15, 0, 0), (15, .istore_n 2, 16, 2, 0), (16, .iconst 0, 17, 0, 0), (17, .istore_n 3, 18, 3, 0), (18, .iload_n 3, 19, 3, 0), (19, .aload_n 0, 20, 0, 0), (20, .getfield 43, 23, 11, 22), (23, .aload_n 0, 24, 0, 0),
  (24, .getfield 248, 27, 11, 18), (27, .iaload, 28, 0, 0), (28, .if_icmp .ge 121, 31, 149, 0), (31, .iconst 0, 32, 0, 0), (32, .istore 4, 34, 4, 0), (34, .iload 4, 36, 4, 0), (36, .aload_n 0, 37, 0, 0), (37, .getfield 46, 40, 11, 23),
  (40, .aload_n 0, 41, 0, 0), (41, .getfield 248, 44, 11, 18), (44, .iaload, 45, 0, 0), (45, .if_icmp .ge 98, 48, 143, 0), (48, .iload 4, 50, 4, 0), (50, .iload_n 3, 51, 3, 0), (51, .iconst 0, 52, 0, 0), (52, .aload_n 0, 53, 0, 0),
  (53, .getfield 125, 56, 11, 53), (56, .iconst 3, 57, 0, 0), (57, .iaload, 58, 0, 0), (58, .invokestatic 337, 61, 222, 4), (61, .istore 5, 63, 5, 0), (63, .aload_n 0, 64, 0, 0), (64, .iload 5, 66, 5, 0), (66, .invokevirtual 379, 69, 257, 1),
  (69, .ifCond .ne 7, 72, 76, 0), (72, .iconst 1, 73, 0, 0), (73, .goto 4, 76, 77, 0), (76, .iconst 0, 77, 0, 0), (77, .istore 6, 79, 6, 0), (79, .iconst 0, 80, 0, 0), (80, .istore 7, 82, 7, 0), (82, .iload 7, 84, 7, 0),
  (84, .aload_n 0, 85, 0, 0), (85, .getfield 52, 88, 11, 25), (88, .aload_n 0, 89, 0, 0), (89, .getfield 248, 92, 11, 18), (92, .iaload, 93, 0, 0), (93, .if_icmp .ge 36, 96, 129, 0), (96, .iload 6, 98, 6, 0), (98, .ifCond .ne 18, 101, 116, 0),
  (101, .aload_n 0, 102, 0, 0), (102, .getfield 131, 105, 11, 56), (105, .iload 5, 107, 5, 0), (107, .iconst 4, 108, 0, 0), (108, .iload 7, 110, 7, 0), (110, .imul, 111, 0, 0), (111, .iadd, 112, 0, 0), (112, .iaload, 113, 0, 0),
  (113, .ifCond .le 7, 116, 120, 0), (116, .iconst 1, 117, 0, 0), (117, .goto 4, 120, 121, 0), (120, .iconst 0, 121, 0, 0), (121, .istore 6, 123, 6, 0), (123, .iinc 7 1, 126, 7, 0), (126, .goto (-44), 129, 82, 0), (129, .iload 6, 131, 6, 0),
  (131, .ifCond .ne 6, 134, 137, 0), (134, .iinc 2 1, 137, 2, 0), (137, .iinc 4 1, 140, 4, 0), (140, .goto (-106), 143, 34, 0), (143, .iinc 3 1, 146, 3, 0), (146, .goto (-128), 149, 18, 0), (149, .iload_n 2, 150, 2, 0), (150, .ireturn, 151, 0, 0)]
set_option maxRecDepth 20000 in
/-- 278: StoneHomeModel.first(IZ)I -/
def at_X11_first : List (Nat × am_I) := [(0, .iload_n 1, 1, 1, 0), (1, .iconst 1, 2, 0, 0), (2, .iconst 3, 3, 0, 0), (3, .invokestatic 353, 6, 230, 3), (6, .ifCond .ne 5, 9, 11, 0), (9, .iconst (-1), 10, 0, 0), (10, .ireturn, 11, 0, 0), (11, .aload_n 0, 12, 0, 0),
  (12, .invokevirtual 413, 15, 236, 0), (15, .ifCond .eq 6, 18, 21, 0), (18, .bipush (-2), 20, 0, 0), (20, .ireturn, 21, 0, 0), (21, .iconst 0, 22, 0, 0), (22, .istore_n 3, 23, 3, 0), (23, .iload_n 3, 24, 3, 0), (24, .sipush 9409, 27, 0, 0),
  (27, .if_icmp .ge 57, 30, 84, 0), (30, .aload_n 0, 31, 0, 0), (31, .getfield 140, 34, 11, 60), (34, .iload_n 3, 35, 3, 0), (35, .iload_n 3, 36, 3, 0), (36, .bipush 97, 38, 0, 0), (38, .idiv, 39, 0, 0), (39, .bipush 96, 41, 0, 0),
  (41, .if_icmp .ge 35, 44, 76, 0), (44, .aload_n 0, 45, 0, 0), (45, .iconst 4, 46, 0, 0), (46, .iload_n 3, 47, 3, 0), (47, .bipush 97, 49, 0, 0), (49, .idiv, 50, 0, 0), (50, .imul, 51, 0, 0), (51, .invokevirtual 379, 54, 257, 1),
  (54, .ifCond .eq 22, 57, 76, 0), (57, .aload_n 0, 58, 0, 0), (58, .iconst 4, 59, 0, 0), (59, .iload_n 3, 60, 3, 0), (60, .bipush 97, 62, 0, 0), (62, .idiv, 63, 0, 0), (63, .imul, 64, 0, 0), (64, .invokevirtual 334, 67, 224, 1),
  (67, .bipush 6, 69, 0, 0), (69, .if_icmp .ne 7, 72, 76, 0), (72, .iconst 1, 73, 0, 0), (73, .goto 4, 76, 77, 0), (76, .iconst 0, 77, 0, 0), (77, .iastore, 78, 0, 0), (78, .iinc 3 1, 81, 3, 0), (81, .goto (-58), 84, 23, 0),
  (84, .iconst 2, 85, 0, 0), (85, .iload_n 1, 86, 1, 0), (86, .imul, 87, 0, 0), (87, .iconst 1, 88, 0, 0), (88, .isub, 89, 0, 0), (89, .istore_n 3, 90, 3, 0), (90, .iload_n 3, 91, 3, 0), (91, .ifCond .lt 147, 94, 238, 0),
  (94, .aload_n 0, 95, 0, 0), (95, .aload_n 0, 96, 0, 0), (96, .getfield 125, 99, 11, 53), (99, .iconst 5, 100, 0, 0), (100, .iaload, 101, 0, 0), (101, .iload_n 3, 102, 3, 0), (102, .aload_n 0, 103, 0, 0), (103, .getfield 82, 106, 11, 35),
  (106, .aload_n 0, 107, 0, 0), (107, .getfield 248, 110, 11, 18), (110, .iaload, 111, 0, 0), (111, .imul, 112, 0, 0), (112, .iadd, 113, 0, 0), (113, .invokevirtual 455, 116, 279, 1), (116, .iconst 0, 117, 0, 0), (117, .istore 4, 119, 4, 0),
  (119, .iload 4, 121, 4, 0), (121, .sipush 9409, 124, 0, 0), (124, .if_icmp .ge 77, 127, 201, 0), (127, .aload_n 0, 128, 0, 0), (128, .getfield 143, 131, 11, 61), (131, .iload 4, 133, 4, 0), (133, .aload_n 0, 134, 0, 0), (134, .iload 4, 136, 4, 0),
  (136, .bipush 97, 138, 0, 0), (138, .idiv, 139, 0, 0), (139, .invokevirtual 458, 142, 280, 1), (142, .ifCond .eq 51, 145, 193, 0), (145, .aload_n 0, 146, 0, 0), (146, .iload 4, 148, 4, 0), (148, .bipush 97, 150, 0, 0), (150, .irem, 151, 0, 0),
  (151, .invokevirtual 458, 154, 280, 1), (154, .ifCond .eq 39, 157, 193, 0), (157, .aload_n 0, 158, 0, 0), (158, .iload 4, 160, 4, 0), (160, .bipush 97, 162, 0, 0), (162, .idiv, 163, 0, 0), (163, .iload 4, 165, 4, 0), (165, .bipush 97, 167, 0, 0),
  (167, .irem, 168, 0, 0), (168, .iload_n 3, 169, 3, 0), (169, .iconst 2, 170, 0, 0), (170, .irem, 171, 0, 0), (171, .ifCond .ne 7, 174, 178, 0), (174, .iconst 1, 175, 0, 0), (175, .goto 4, 178, 179, 0), (178, .iconst 0, 179, 0, 0),
  (179, .iconst 2, 180, 0, 0), (180, .iload_n 1, 181, 1, 0), (181, .imul, 182, 0, 0), (182, .iload_n 3, 183, 3, 0), (183, .isub, 184, 0, 0), (184, .invokestatic 388, 187, 258, 1), (187, .invokevirtual 461, 190, 281, 4), (190, .goto 4, 193, 194, 0),
  (193, .iconst 0, 194, 0, 0), (194, .iastore, 195, 0, 0), (195, .iinc 4 1, 198, 4, 0), (198, .goto (-79), 201, 119, 0), (201, .iconst 0, 202, 0, 0), (202, .istore 4, 204, 4, 0), (204, .iload 4, 206, 4, 0), (206, .sipush 9409, 209, 0, 0),
  (209, .if_icmp .ge 23, 212, 232, 0), (212, .aload_n 0, 213, 0, 0), (213, .getfield 140, 216, 11, 60), (216, .iload 4, 218, 4, 0), (218, .aload_n 0, 219, 0, 0), (219, .getfield 143, 222, 11, 61), (222, .iload 4, 224, 4, 0), (224, .iaload, 225, 0, 0),
  (225, .iastore, 226, 0, 0), (226, .iinc 4 1, 229, 4, 0), (229, .goto (-25), 232, 204, 0), (232, .iinc 3 (-1), 235, 3, 0), (235, .goto (-145), 238, 90, 0), (238, .aload_n 0, 239, 0, 0), (239, .getfield 125, 242, 11, 53), (242, .iconst 0, 243, 0, 0),
  (243, .iaload, 244, 0, 0), (244, .aload_n 0, 245, 0, 0), (245, .getfield 125, 248, 11, 53), (248, .iconst 1, 249, 0, 0), (249, .iaload, 250, 0, 0), (250, .aload_n 0, 251, 0, 0), (251, .getfield 125, 254, 11, 53), (254, .iconst 2, 255, 0, 0),
  (255, .iaload, 256, 0, 0), (256, .iconst 0, 257, 0, 0), (257, .invokestatic 337, 260, 222, 4), (260, .iconst 4, 261, 0, 0), (261, .idiv, 262, 0, 0), (262, .istore_n 3, 263, 3, 0), (263, .aload_n 0, 264, 0, 0), (264, .getfield 76, 267, 11, 33),
  (267, .iconst 3, 268, 0, 0), (268, .aload_n 0, 269, 0, 0), (269, .getfield 248, 272, 11, 18), (272, .imul, 273, 0, 0), (273, .iaload, 274, 0, 0), (274, .aload_n 0, 275, 0, 0), (275, .getfield 76, 278, 11, 33), (278, .iconst 3, 279, 0, 0),
  (279, .aload_n 0, 280, 0, 0), (280, .getfield 248, 283, 11, 18), (283, .imul, 284, 0, 0), (284, .iconst 1, 285, 0, 0), (285, .iadd, 286, 0, 0), (286, .iaload, 287, 0, 0), (287, .aload_n 0, 288, 0, 0), (288, .getfield 76, 291, 11, 33),
  (291, .iconst 3, 292, 0, 0), (292, .aload_n 0, 293, 0, 0), (293, .getfield 248, 296, 11, 18), (296, .imul, 297, 0, 0), (297, .iconst 2, 298, 0, 0), (298, .iadd, 299, 0, 0), (299, .iaload, 300, 0, 0), (300, .iconst 0, 301, 0, 0),
  (301, .invokestatic 337, 304, 222, 4), (304, .iconst 4, 305, 0, 0), (305, .idiv, 306, 0, 0), (306, .istore 4, 308, 4, 0), (308, .aload_n 0, 309, 0, 0), (309, .getfield 140, 312, 11, 60), (312, .bipush 97, 314, 0, 0), (314, .iload_n 3, 315, 3, 0),
  (315, .imul, 316, 0, 0), (316, .iload 4, 318, 4, 0), (318, .iadd, 319, 0, 0), (319, .iaload, 320, 0, 0), (320, .iconst 2, 321, 0, 0), (321, .iload_n 1, 322, 1, 0), (322, .imul, 323, 0, 0), (323, .invokestatic 388, 326, 258, 1),
  (326, .iload_n 2, 327, 2, 0), (327, .invokestatic 436, 330, 262, 3), (330, .ireturn, 331, 0, 0)]
set_option maxRecDepth 20000 in
/-- 279: StoneHomeModel.fillsCameTo(I)V -/
def at_X11_fillsCameTo : List (Nat × am_I) := [(0, .iconst 0, 1, 0, 0), (1, .istore_n 2, 2, 2, 0), (2, .iload_n 2, 3, 2, 0), (3, .bipush 96, 5, 0, 0), (5, .if_icmp .ge 159, 8, 164, 0), (8, .iconst 4, 9, 0, 0), (9, .iload_n 2, 10, 2, 0), (10, .imul, 11, 0, 0),
  (11, .istore_n 3, 12, 3, 0), (12, .aload_n 0, 13, 0, 0), (13, .iload_n 3, 14, 3, 0), (14, .invokevirtual 379, 17, 257, 1), (17, .ifCond .eq 141, 20, 158, 0), (20, .aload_n 0, 21, 0, 0), (21, .iload_n 3, 22, 3, 0), (22, .invokevirtual 334, 25, 224, 1),
  (25, .bipush 6, 27, 0, 0), (27, .if_icmp .ne 6, 30, 33, 0), (30, .goto 128, 33, 158, 0), (33, .iconst 0, 34, 0, 0), (34, .istore 4, 36, 4, 0), (36, .iload 4, 38, 4, 0), (38, .aload_n 0, 39, 0, 0), (39, .getfield 55, 42, 11, 26),
  (42, .aload_n 0, 43, 0, 0), (43, .getfield 248, 46, 11, 18), (46, .iaload, 47, 0, 0), (47, .if_icmp .ge 81, 50, 128, 0), (50, .iconst 0, 51, 0, 0), (51, .istore 5, 53, 5, 0), (53, .iload 5, 55, 5, 0), (55, .aload_n 0, 56, 0, 0),
  (56, .getfield 58, 59, 11, 27), (59, .iconst 4, 60, 0, 0), (60, .aload_n 0, 61, 0, 0), (61, .getfield 248, 64, 11, 18), (64, .imul, 65, 0, 0), (65, .iload 4, 67, 4, 0), (67, .iadd, 68, 0, 0), (68, .iaload, 69, 0, 0),
  (69, .if_icmp .ge 53, 72, 122, 0), (72, .aload_n 0, 73, 0, 0), (73, .getfield 146, 76, 11, 62), (76, .bipush 30, 78, 0, 0), (78, .iload_n 2, 79, 2, 0), (79, .imul, 80, 0, 0), (80, .bipush 6, 82, 0, 0), (82, .iload 4, 84, 4, 0),
  (84, .imul, 85, 0, 0), (85, .iadd, 86, 0, 0), (86, .iload 5, 88, 5, 0), (88, .iadd, 89, 0, 0), (89, .aload_n 0, 90, 0, 0), (90, .iload_n 3, 91, 3, 0), (91, .iload 4, 93, 4, 0), (93, .invokevirtual 372, 96, 237, 2),
  (96, .ifCond .eq 18, 99, 114, 0), (99, .aload_n 0, 100, 0, 0), (100, .iload_n 3, 101, 3, 0), (101, .iload 4, 103, 4, 0), (103, .iload 5, 105, 5, 0), (105, .iload_n 1, 106, 1, 0), (106, .invokevirtual 369, 109, 239, 4), (109, .iconst 4, 110, 0, 0),
  (110, .idiv, 111, 0, 0), (111, .goto 4, 114, 115, 0), (114, .iconst (-1), 115, 0, 0), (115, .iastore, 116, 0, 0), (116, .iinc 5 1, 119, 5, 0), (119, .goto (-66), 122, 53, 0), (122, .iinc 4 1, 125, 4, 0), (125, .goto (-89), 128, 36, 0),
  (128, .aload_n 0, 129, 0, 0), (129, .getfield 146, 132, 11, 62), (132, .bipush 30, 134, 0, 0), (134, .iload_n 2, 135, 2, 0), (135, .imul, 136, 0, 0), (136, .bipush 6, 138, 0, 0), (138, .aload_n 0, 139, 0, 0), (139, .getfield 55, 142, 11, 26),
  (142, .aload_n 0, 143, 0, 0), (143, .getfield 248, 146, 11, 18), (146, .iaload, 147, 0, 0), (147, .imul, 148, 0, 0), (148, .iadd, 149, 0, 0), (149, .aload_n 0, 150, 0, 0), (150, .iload_n 3, 151, 3, 0), (151, .iload_n 1, 152, 1, 0),
  (152, .invokevirtual 366, 155, 247, 2), (155, .iconst 4, 156, 0, 0), (156, .idiv, 157, 0, 0), (157, .iastore, 158, 0, 0), (158, .iinc 2 1, 161, 2, 0), (161, .goto (-159), 164, 2, 0), (164, .return_, 165, 0, 0)]
set_option maxRecDepth 20000 in
/-- 280: StoneHomeModel.isLone(I)Z -/
def at_X11_isLone : List (Nat × am_I) := [(0, .iload_n 1, 1, 1, 0), (1, .bipush 96, 3, 0, 0), (3, .if_icmp .eq 13, 6, 16, 0), (6, .aload_n 0, 7, 0, 0), (7, .iconst 4, 8, 0, 0), (8, .iload_n 1, 9, 1, 0), (9, .imul, 10, 0, 0), (10, .invokevirtual 379, 13, 257, 1),
  (13, .ifCond .eq 7, 16, 20, 0), (16, .iconst 1, 17, 0, 0), (17, .goto 4, 20, 21, 0), (20, .iconst 0, 21, 0, 0), (21, .ireturn, 22, 0, 0)]
set_option maxRecDepth 20000 in
/-- 281: StoneHomeModel.pairOf(IIZI)I -/
def at_X11_pairOf : List (Nat × am_I) := [(0, .iload_n 1, 1, 1, 0), (1, .bipush 96, 3, 0, 0), (3, .if_icmp .ne 5, 6, 8, 0), (6, .iconst 0, 7, 0, 0), (7, .ireturn, 8, 0, 0), (8, .aload_n 0, 9, 0, 0), (9, .iconst 4, 10, 0, 0), (10, .iload_n 1, 11, 1, 0),
  (11, .imul, 12, 0, 0), (12, .invokevirtual 334, 15, 224, 1), (15, .bipush 6, 17, 0, 0), (17, .if_icmp .ne 6, 20, 23, 0), (20, .iload 4, 22, 4, 0), (22, .ireturn, 23, 0, 0), (23, .iload_n 2, 24, 2, 0), (24, .bipush 96, 26, 0, 0),
  (26, .if_icmp .ge 17, 29, 43, 0), (29, .aload_n 0, 30, 0, 0), (30, .iconst 4, 31, 0, 0), (31, .iload_n 2, 32, 2, 0), (32, .imul, 33, 0, 0), (33, .invokevirtual 334, 36, 224, 1), (36, .bipush 6, 38, 0, 0), (38, .if_icmp .ne 5, 41, 43, 0),
  (41, .iconst 0, 42, 0, 0), (42, .ireturn, 43, 0, 0), (43, .iload_n 3, 44, 3, 0), (44, .ifCond .ne 24, 47, 68, 0), (47, .iload_n 2, 48, 2, 0), (48, .bipush 96, 50, 0, 0), (50, .if_icmp .ne 18, 53, 68, 0), (53, .bipush 6, 55, 0, 0),
  (55, .aload_n 0, 56, 0, 0), (56, .getfield 140, 59, 11, 60), (59, .bipush 97, 61, 0, 0), (61, .iload_n 1, 62, 1, 0), (62, .imul, 63, 0, 0), (63, .iload_n 2, 64, 2, 0), (64, .iadd, 65, 0, 0), (65, .iaload, 66, 0, 0),
  (66, .imul, 67, 0, 0), (67, .ireturn, 68, 0, 0), (68, .iconst (-1), 69, 0, 0), (69, .istore 5, 71, 5, 0), (71, .iconst 0, 72, 0, 0), (72, .istore 6, 74, 6, 0), (74, .iload 6, 76, 6, 0), (76, .aload_n 0, 77, 0, 0),
  (77, .getfield 55, 80, 11, 26), (80, .aload_n 0, 81, 0, 0), (81, .getfield 248, 84, 11, 18), (84, .iaload, 85, 0, 0), (85, .if_icmp .gt 87, 88, 172, 0), (88, .iload 6, 90, 6, 0), (90, .aload_n 0, 91, 0, 0), (91, .getfield 55, 94, 11, 26),
  (94, .aload_n 0, 95, 0, 0), (95, .getfield 248, 98, 11, 18), (98, .iaload, 99, 0, 0), (99, .if_icmp .ge 26, 102, 125, 0), (102, .aload_n 0, 103, 0, 0), (103, .iconst 4, 104, 0, 0), (104, .iload_n 3, 105, 3, 0), (105, .ifCond .eq 7, 108, 112, 0),
  (108, .iload_n 1, 109, 1, 0), (109, .goto 4, 112, 113, 0), (112, .iload_n 2, 113, 2, 0), (113, .imul, 114, 0, 0), (114, .iload 6, 116, 6, 0), (116, .invokevirtual 372, 119, 237, 2), (119, .ifCond .ne 6, 122, 125, 0), (122, .goto 44, 125, 166, 0),
  (125, .aload_n 0, 126, 0, 0), (126, .iload_n 1, 127, 1, 0), (127, .iload_n 2, 128, 2, 0), (128, .iload_n 3, 129, 3, 0), (129, .iload 6, 131, 6, 0), (131, .invokevirtual 451, 134, 282, 4), (134, .istore 7, 136, 7, 0), (136, .iload 5, 138, 5, 0),
  (138, .ifCond .lt 24, 141, 162, 0), (141, .iload_n 3, 142, 3, 0), (142, .ifCond .eq 13, 145, 155, 0), (145, .iload 7, 147, 7, 0), (147, .iload 5, 149, 5, 0), (149, .if_icmp .le 17, 152, 166, 0), (152, .goto 10, 155, 162, 0), (155, .iload 7, 157, 7, 0),
  (157, .iload 5, 159, 5, 0), (159, .if_icmp .ge 7, 162, 166, 0), (162, .iload 7, 164, 7, 0), (164, .istore 5, 166, 5, 0), (166, .iinc 6 1, 169, 6, 0), (169, .goto (-95), 172, 74, 0), (172, .iload 5, 174, 5, 0), (174, .ireturn, 175, 0, 0)]
set_option maxRecDepth 20000 in
/-- 282: StoneHomeModel.pairBy(IIZI)I -/
def at_X11_pairBy : List (Nat × am_I) := [(0, .iload_n 3, 1, 3, 0), (1, .ifCond .eq 7, 4, 8, 0), (4, .iload_n 1, 5, 1, 0), (5, .goto 4, 8, 9, 0), (8, .iload_n 2, 9, 2, 0), (9, .istore 5, 11, 5, 0), (11, .iload 4, 13, 4, 0), (13, .aload_n 0, 14, 0, 0),
  (14, .getfield 55, 17, 11, 26), (17, .aload_n 0, 18, 0, 0), (18, .getfield 248, 21, 11, 18), (21, .iaload, 22, 0, 0), (22, .if_icmp .ne 56, 25, 78, 0), (25, .aload_n 0, 26, 0, 0), (26, .getfield 146, 29, 11, 62), (29, .bipush 30, 31, 0, 0),
  (31, .iload 5, 33, 5, 0), (33, .imul, 34, 0, 0), (34, .bipush 6, 36, 0, 0), (36, .iload 4, 38, 4, 0), (38, .imul, 39, 0, 0), (39, .iadd, 40, 0, 0), (40, .iaload, 41, 0, 0), (41, .istore 6, 43, 6, 0),
  (43, .bipush 6, 45, 0, 0), (45, .iload_n 3, 46, 3, 0), (46, .ifCond .eq 18, 49, 64, 0), (49, .aload_n 0, 50, 0, 0), (50, .getfield 140, 53, 11, 60), (53, .bipush 97, 55, 0, 0), (55, .iload 6, 57, 6, 0), (57, .imul, 58, 0, 0),
  (58, .iload_n 2, 59, 2, 0), (59, .iadd, 60, 0, 0), (60, .iaload, 61, 0, 0), (61, .goto 15, 64, 76, 0), (64, .aload_n 0, 65, 0, 0), (65, .getfield 140, 68, 11, 60), (68, .bipush 97, 70, 0, 0), (70, .iload_n 1, 71, 1, 0),
  (71, .imul, 72, 0, 0), (72, .iload 6, 74, 6, 0), (74, .iadd, 75, 0, 0), (75, .iaload, 76, 0, 0), (76, .imul, 77, 0, 0), (77, .ireturn, 78, 0, 0), (78, .iconst 0, 79, 0, 0), (79, .istore 6, 81, 6, 0),
  (81, .iconst 0, 82, 0, 0), (82, .istore 7, 84, 7, 0), (84, .iload 7, 86, 7, 0), (86, .aload_n 0, 87, 0, 0), (87, .getfield 58, 90, 11, 27), (90, .iconst 4, 91, 0, 0), (91, .aload_n 0, 92, 0, 0), (92, .getfield 248, 95, 11, 18),
  (95, .imul, 96, 0, 0), (96, .iload 4, 98, 4, 0), (98, .iadd, 99, 0, 0), (99, .iaload, 100, 0, 0), (100, .if_icmp .ge 87, 103, 187, 0), (103, .aload_n 0, 104, 0, 0), (104, .getfield 146, 107, 11, 62), (107, .bipush 30, 109, 0, 0),
  (109, .iload 5, 111, 5, 0), (111, .imul, 112, 0, 0), (112, .bipush 6, 114, 0, 0), (114, .iload 4, 116, 4, 0), (116, .imul, 117, 0, 0), (117, .iadd, 118, 0, 0), (118, .iload 7, 120, 7, 0), (120, .iadd, 121, 0, 0),
  (121, .iaload, 122, 0, 0), (122, .istore 8, 124, 8, 0), (124, .iload 6, 126, 6, 0), (126, .aload_n 0, 127, 0, 0), (127, .getfield 61, 130, 11, 28), (130, .bipush 6, 132, 0, 0), (132, .iconst 4, 133, 0, 0), (133, .aload_n 0, 134, 0, 0),
  (134, .getfield 248, 137, 11, 18), (137, .imul, 138, 0, 0), (138, .iload 4, 140, 4, 0), (140, .iadd, 141, 0, 0), (141, .imul, 142, 0, 0), (142, .iload 7, 144, 7, 0), (144, .iadd, 145, 0, 0), (145, .iaload, 146, 0, 0),
  (146, .iload_n 3, 147, 3, 0), (147, .ifCond .eq 18, 150, 165, 0), (150, .aload_n 0, 151, 0, 0), (151, .getfield 140, 154, 11, 60), (154, .bipush 97, 156, 0, 0), (156, .iload 8, 158, 8, 0), (158, .imul, 159, 0, 0), (159, .iload_n 2, 160, 2, 0),
  (160, .iadd, 161, 0, 0), (161, .iaload, 162, 0, 0), (162, .goto 15, 165, 177, 0), (165, .aload_n 0, 166, 0, 0), (166, .getfield 140, 169, 11, 60), (169, .bipush 97, 171, 0, 0), (171, .iload_n 1, 172, 1, 0), (172, .imul, 173, 0, 0),
  (173, .iload 8, 175, 8, 0), (175, .iadd, 176, 0, 0), (176, .iaload, 177, 0, 0), (177, .imul, 178, 0, 0), (178, .iadd, 179, 0, 0), (179, .istore 6, 181, 6, 0), (181, .iinc 7 1, 184, 7, 0), (184, .goto (-100), 187, 84, 0),
  (187, .iload 6, 189, 6, 0), (189, .ireturn, 190, 0, 0)]
set_option maxRecDepth 20000 in
/-- 283: StoneHomeModel.tell(II)I -/
def at_X11_tell : List (Nat × am_I) := [(0, .aload_n 0, 1, 0, 0), (1, .getfield 273, 4, 11, 63), (4, .iconst 5, 5, 0, 0), (5, .if_icmp .eq 12, 8, 17, 0), (8, .aload_n 0, 9, 0, 0), (9, .iload_n 1, 10, 1, 0), (10, .iload_n 2, 11, 2, 0), (11, .invokevirtual 403, 14, 229, 2),
  (14, .ifCond .ne 5, 17, 19, 0), (17, .iconst (-1), 18, 0, 0), (18, .ireturn, 19, 0, 0), (19, .aload_n 0, 20, 0, 0), (20, .getfield 149, 23, 11, 64), (23, .aload_n 0, 24, 0, 0), (24, .getfield 273, 27, 11, 63), (27, .iload_n 1, 28, 1, 0),
  (28, .iastore, 29, 0, 0), (29, .aload_n 0, 30, 0, 0), (30, .getfield 152, 33, 11, 65), (33, .aload_n 0, 34, 0, 0), (34, .getfield 273, 37, 11, 63), (37, .iload_n 2, 38, 2, 0), (38, .iastore, 39, 0, 0), (39, .aload_n 0, 40, 0, 0),
  (40, .dup, 41, 0, 0), (41, .getfield 273, 44, 11, 63), (44, .iconst 1, 45, 0, 0), (45, .iadd, 46, 0, 0), (46, .putfield 273, 49, 11, 504), (49, .aload_n 0, 50, 0, 0), (50, .getfield 273, 53, 11, 63), (53, .iconst 1, 54, 0, 0),
  (54, .isub, 55, 0, 0), (55, .ireturn, 56, 0, 0)]
set_option maxRecDepth 20000 in
/-- 284: StoneHomeModel.forget()I -/
def at_X11_forget : List (Nat × am_I) := [(0, .aload_n 0, 1, 0, 0), (1, .getfield 273, 4, 11, 63), (4, .istore_n 1, 5, 1, 0), (5, .aload_n 0, 6, 0, 0), (6, .iconst 0, 7, 0, 0), (7, .putfield 273, 10, 11, 504), (10, .iload_n 1, 11, 1, 0), (11, .ireturn, 12, 0, 0)]
set_option maxRecDepth 20000 in
/-- 285: StoneHomeModel.fits(II)I -/
def at_X11_fits : List (Nat × am_I) := [(0, .iload_n 1, 1, 1, 0), (1, .iconst 0, 2, 0, 0), (2, .aload_n 0, 3, 0, 0), (3, .getfield 273, 6, 11, 63), (6, .invokestatic 353, 9, 230, 3), (9, .ifCond .eq 8, 12, 17, 0), (12, .iload_n 2, 13, 2, 0), (13, .iconst (-1), 14, 0, 0),
  (14, .if_icmp .ge 5, 17, 19, 0), (17, .iconst (-1), 18, 0, 0), (18, .ireturn, 19, 0, 0), (19, .aload_n 0, 20, 0, 0), (20, .iload_n 1, 21, 1, 0), (21, .iload_n 2, 22, 2, 0), (22, .invokevirtual 470, 25, 286, 2), (25, .istore_n 3, 26, 3, 0),
  (26, .iload_n 2, 27, 2, 0), (27, .iconst (-1), 28, 0, 0), (28, .if_icmp .ne 9, 31, 37, 0), (31, .iconst (-1), 32, 0, 0), (32, .iload_n 3, 33, 3, 0), (33, .isub, 34, 0, 0), (34, .goto 12, 37, 46, 0), (37, .iload_n 3, 38, 3, 0),
  (38, .ifCond .ge 7, 41, 45, 0), (41, .iconst (-1), 42, 0, 0), (42, .goto 4, 45, 46, 0), (45, .iload_n 3, 46, 3, 0), (46, .ireturn, 47, 0, 0)]
set_option maxRecDepth 20000 in
/-- 286: StoneHomeModel.fitting(II)I -/
def at_X11_fitting : List (Nat × am_I) := [(0, .iconst 0, 1, 0, 0), (1, .istore_n 3, 2, 3, 0), (2, .iconst 0, 3, 0, 0), (3, .istore 4, 5, 4, 0), (5, .iload 4, 7, 4, 0), (7, .iconst 1, 8, 0, 0), (8, .iconst 2, 9, 0, 0), (9, .iload_n 1, 10, 1, 0),
  (10, .imul, 11, 0, 0), (11, .ishl, 12, 0, 0), (12, .if_icmp .ge 33, 15, 45, 0), (15, .aload_n 0, 16, 0, 0), (16, .iload_n 1, 17, 1, 0), (17, .iload 4, 19, 4, 0), (19, .invokevirtual 467, 22, 287, 2), (22, .ifCond .ne 6, 25, 28, 0),
  (25, .goto 14, 28, 39, 0), (28, .iload_n 3, 29, 3, 0), (29, .iload_n 2, 30, 2, 0), (30, .if_icmp .ne 6, 33, 36, 0), (33, .iload 4, 35, 4, 0), (35, .ireturn, 36, 0, 0), (36, .iinc 3 1, 39, 3, 0), (39, .iinc 4 1, 42, 4, 0),
  (42, .goto (-37), 45, 5, 0), (45, .iconst (-1), 46, 0, 0), (46, .iload_n 3, 47, 3, 0), (47, .isub, 48, 0, 0), (48, .ireturn, 49, 0, 0)]
set_option maxRecDepth 20000 in
/-- 287: StoneHomeModel.oftenBy(II)I -/
def at_X11_oftenBy : List (Nat × am_I) := [(0, .iconst 0, 1, 0, 0), (1, .istore_n 3, 2, 3, 0), (2, .iload_n 3, 3, 3, 0), (3, .iconst 3, 4, 0, 0), (4, .if_icmp .ge 37, 7, 41, 0), (7, .aload_n 0, 8, 0, 0), (8, .getfield 155, 11, 11, 66), (11, .iload_n 3, 12, 3, 0),
  (12, .iload_n 3, 13, 3, 0), (13, .aload_n 0, 14, 0, 0), (14, .getfield 73, 17, 11, 32), (17, .iconst 3, 18, 0, 0), (18, .aload_n 0, 19, 0, 0), (19, .getfield 248, 22, 11, 18), (22, .imul, 23, 0, 0), (23, .iconst 2, 24, 0, 0),
  (24, .iadd, 25, 0, 0), (25, .iaload, 26, 0, 0), (26, .if_icmp .ne 7, 29, 33, 0), (29, .iconst 1, 30, 0, 0), (30, .goto 4, 33, 34, 0), (33, .iconst 0, 34, 0, 0), (34, .iastore, 35, 0, 0), (35, .iinc 3 1, 38, 3, 0),
  (38, .goto (-36), 41, 2, 0), (41, .iconst 1, 42, 0, 0), (42, .iconst 2, 43, 0, 0), (43, .iload_n 1, 44, 1, 0), (44, .imul, 45, 0, 0), (45, .ishl, 46, 0, 0), (46, .istore_n 3, 47, 3, 0), (47, .iconst 0, 48, 0, 0),
  (48, .istore 4, 50, 4, 0), (50, .iload 4, 52, 4, 0), (52, .iload_n 1, 53, 1, 0), (53, .if_icmp .ge 44, 56, 97, 0), (56, .iload_n 3, 57, 3, 0), (57, .iconst 4, 58, 0, 0), (58, .idiv, 59, 0, 0), (59, .istore_n 3, 60, 3, 0),
  (60, .iload_n 2, 61, 2, 0), (61, .iload_n 3, 62, 3, 0), (62, .idiv, 63, 0, 0), (63, .iconst 4, 64, 0, 0), (64, .irem, 65, 0, 0), (65, .istore 5, 67, 5, 0), (67, .iload 5, 69, 5, 0), (69, .aload_n 0, 70, 0, 0),
  (70, .getfield 55, 73, 11, 26), (73, .aload_n 0, 74, 0, 0), (74, .getfield 248, 77, 11, 18), (77, .iaload, 78, 0, 0), (78, .if_icmp .lt 5, 81, 83, 0), (81, .iconst 0, 82, 0, 0), (82, .ireturn, 83, 0, 0), (83, .aload_n 0, 84, 0, 0),
  (84, .iload 5, 86, 5, 0), (86, .iload 4, 88, 4, 0), (88, .invokevirtual 464, 91, 288, 2), (91, .iinc 4 1, 94, 4, 0), (94, .goto (-44), 97, 50, 0), (97, .aload_n 0, 98, 0, 0), (98, .getfield 155, 101, 11, 66), (101, .iconst 0, 102, 0, 0),
  (102, .iaload, 103, 0, 0), (103, .aload_n 0, 104, 0, 0), (104, .getfield 155, 107, 11, 66), (107, .iconst 1, 108, 0, 0), (108, .iaload, 109, 0, 0), (109, .iadd, 110, 0, 0), (110, .aload_n 0, 111, 0, 0), (111, .getfield 155, 114, 11, 66),
  (114, .iconst 2, 115, 0, 0), (115, .iaload, 116, 0, 0), (116, .iadd, 117, 0, 0), (117, .ireturn, 118, 0, 0)]
set_option maxRecDepth 20000 in
/-- 288: StoneHomeModel.scratches(II)V -/
def at_X11_scratches : List (Nat × am_I) := [(0, .iload_n 2, 1, 2, 0), (1, .ifCond .ne 17, 4, 18, 0), (4, .aload_n 0, 5, 0, 0), (5, .getfield 73, 8, 11, 32), (8, .iconst 3, 9, 0, 0), (9, .aload_n 0, 10, 0, 0), (10, .getfield 248, 13, 11, 18), (13, .imul, 14, 0, 0),
  (14, .iaload, 15, 0, 0), (15, .goto 11, 18, 26, 0), (18, .aload_n 0, 19, 0, 0), (19, .getfield 149, 22, 11, 64), (22, .iload_n 2, 23, 2, 0), (23, .iconst 1, 24, 0, 0), (24, .isub, 25, 0, 0), (25, .iaload, 26, 0, 0),
  (26, .istore_n 3, 27, 3, 0), (27, .iload_n 2, 28, 2, 0), (28, .ifCond .ne 19, 31, 47, 0), (31, .aload_n 0, 32, 0, 0), (32, .getfield 73, 35, 11, 32), (35, .iconst 3, 36, 0, 0), (36, .aload_n 0, 37, 0, 0), (37, .getfield 248, 40, 11, 18),
  (40, .imul, 41, 0, 0), (41, .iconst 1, 42, 0, 0), (42, .iadd, 43, 0, 0), (43, .iaload, 44, 0, 0), (44, .goto 11, 47, 55, 0), (47, .aload_n 0, 48, 0, 0), (48, .getfield 152, 51, 11, 65), (51, .iload_n 2, 52, 2, 0),
  (52, .iconst 1, 53, 0, 0), (53, .isub, 54, 0, 0), (54, .iaload, 55, 0, 0), (55, .istore 4, 57, 4, 0), (57, .iconst 0, 58, 0, 0), (58, .istore 5, 60, 5, 0), (60, .iload 5, 62, 5, 0), (62, .iconst 3, 63, 0, 0),
  (63, .if_icmp .ge 17, 66, 80, 0), (66, .aload_n 0, 67, 0, 0), (67, .getfield 158, 70, 11, 67), (70, .iload 5, 72, 5, 0), (72, .iconst 0, 73, 0, 0), (73, .iastore, 74, 0, 0), (74, .iinc 5 1, 77, 5, 0), (77, .goto (-17), 80, 60, 0),
  (80, .iconst 0, 81, 0, 0), (81, .istore 5, 83, 5, 0), (83, .iload 5, 85, 5, 0), (85, .iconst 3, 86, 0, 0), (86, .if_icmp .ge 186, 89, 272, 0), (89, .iload_n 3, 90, 3, 0), (90, .iload 4, 92, 4, 0), (92, .iload 5, 94, 5, 0),
  (94, .aload_n 0, 95, 0, 0), (95, .getfield 79, 98, 11, 34), (98, .aload_n 0, 99, 0, 0), (99, .getfield 248, 102, 11, 18), (102, .iaload, 103, 0, 0), (103, .invokestatic 337, 106, 222, 4), (106, .istore 6, 108, 6, 0), (108, .aload_n 0, 109, 0, 0),
  (109, .getfield 155, 112, 11, 66), (112, .iload 5, 114, 5, 0), (114, .iaload, 115, 0, 0), (115, .ifCond .eq 151, 118, 266, 0), (118, .aload_n 0, 119, 0, 0), (119, .iload 6, 121, 6, 0), (121, .invokevirtual 334, 124, 224, 1), (124, .bipush 6, 126, 0, 0),
  (126, .if_icmp .eq 140, 129, 266, 0), (129, .aload_n 0, 130, 0, 0), (130, .iload 6, 132, 6, 0), (132, .iload_n 1, 133, 1, 0), (133, .invokevirtual 372, 136, 237, 2), (136, .ifCond .ne 6, 139, 142, 0), (139, .goto 127, 142, 266, 0), (142, .iconst 0, 143, 0, 0),
  (143, .istore 7, 145, 7, 0), (145, .iload 7, 147, 7, 0), (147, .aload_n 0, 148, 0, 0), (148, .getfield 58, 151, 11, 27), (151, .iconst 4, 152, 0, 0), (152, .aload_n 0, 153, 0, 0), (153, .getfield 248, 156, 11, 18), (156, .imul, 157, 0, 0),
  (157, .iload_n 1, 158, 1, 0), (158, .iadd, 159, 0, 0), (159, .iaload, 160, 0, 0), (160, .if_icmp .ge 106, 163, 266, 0), (163, .aload_n 0, 164, 0, 0), (164, .iload 6, 166, 6, 0), (166, .iload_n 1, 167, 1, 0), (167, .iload 7, 169, 7, 0),
  (169, .iload_n 2, 170, 2, 0), (170, .aload_n 0, 171, 0, 0), (171, .getfield 82, 174, 11, 35), (174, .aload_n 0, 175, 0, 0), (175, .getfield 248, 178, 11, 18), (178, .iaload, 179, 0, 0), (179, .imul, 180, 0, 0), (180, .invokevirtual 369, 183, 239, 4),
  (183, .istore 8, 185, 8, 0), (185, .aload_n 0, 186, 0, 0), (186, .getfield 357, 189, 11, 55), (189, .ifCond .ne 71, 192, 260, 0), (192, .iload 8, 194, 8, 0), (194, .invokestatic 325, 197, 225, 1), (197, .aload_n 0, 198, 0, 0), (198, .getfield 149, 201, 11, 64),
  (201, .iload_n 2, 202, 2, 0), (202, .iaload, 203, 0, 0), (203, .if_icmp .ne 57, 206, 260, 0), (206, .iload 8, 208, 8, 0), (208, .invokestatic 328, 211, 226, 1), (211, .aload_n 0, 212, 0, 0), (212, .getfield 152, 215, 11, 65), (215, .iload_n 2, 216, 2, 0),
  (216, .iaload, 217, 0, 0), (217, .if_icmp .ne 43, 220, 260, 0), (220, .aload_n 0, 221, 0, 0), (221, .getfield 158, 224, 11, 67), (224, .iload 8, 226, 8, 0), (226, .invokestatic 347, 229, 240, 1), (229, .dup2, 230, 0, 0), (230, .iaload, 231, 0, 0),
  (231, .aload_n 0, 232, 0, 0), (232, .getfield 61, 235, 11, 28), (235, .bipush 6, 237, 0, 0), (237, .iconst 4, 238, 0, 0), (238, .aload_n 0, 239, 0, 0), (239, .getfield 248, 242, 11, 18), (242, .imul, 243, 0, 0), (243, .iload_n 1, 244, 1, 0),
  (244, .iadd, 245, 0, 0), (245, .imul, 246, 0, 0), (246, .iload 7, 248, 7, 0), (248, .iadd, 249, 0, 0), (249, .iaload, 250, 0, 0), (250, .aload_n 0, 251, 0, 0), (251, .getfield 155, 254, 11, 66), (254, .iload 5, 256, 5, 0),
  (256, .iaload, 257, 0, 0), (257, .imul, 258, 0, 0), (258, .iadd, 259, 0, 0), (259, .iastore, 260, 0, 0), (260, .iinc 7 1, 263, 7, 0), (263, .goto (-118), 266, 145, 0), (266, .iinc 5 1, 269, 5, 0), (269, .goto (-186), 272, 83, 0),
  (272, .iconst 0, 273, 0, 0), (273, .istore 5, 275, 5, 0), (275, .iload 5, 277, 5, 0), (277, .iconst 3, 278, 0, 0), (278, .if_icmp .ge 23, 281, 301, 0), (281, .aload_n 0, 282, 0, 0), (282, .getfield 155, 285, 11, 66), (285, .iload 5, 287, 5, 0),
  (287, .aload_n 0, 288, 0, 0), (288, .getfield 158, 291, 11, 67), (291, .iload 5, 293, 5, 0), (293, .iaload, 294, 0, 0), (294, .iastore, 295, 0, 0), (295, .iinc 5 1, 298, 5, 0), (298, .goto (-23), 301, 275, 0), (301, .return_, 302, 0, 0)]
set_option maxRecDepth 20000 in
/-- 289: StoneHomeModel.often(II)I -/
def at_X11_often : List (Nat × am_I) := [(0, .iload_n 1, 1, 1, 0), (1, .iconst 0, 2, 0, 0), (2, .aload_n 0, 3, 0, 0), (3, .getfield 273, 6, 11, 63), (6, .invokestatic 353, 9, 230, 3), (9, .ifCond .eq 7, 12, 16, 0), (12, .iload_n 2, 13, 2, 0), (13, .ifCond .ge 5, 16, 18, 0),
  (16, .iconst (-1), 17, 0, 0), (17, .ireturn, 18, 0, 0), (18, .aload_n 0, 19, 0, 0), (19, .iload_n 1, 20, 1, 0), (20, .iload_n 2, 21, 2, 0), (21, .invokevirtual 470, 24, 286, 2), (24, .istore_n 3, 25, 3, 0), (25, .iload_n 3, 26, 3, 0),
  (26, .ifCond .ge 7, 29, 33, 0), (29, .iconst (-1), 30, 0, 0), (30, .goto 9, 33, 39, 0), (33, .aload_n 0, 34, 0, 0), (34, .iload_n 1, 35, 1, 0), (35, .iload_n 3, 36, 3, 0), (36, .invokevirtual 467, 39, 287, 2), (39, .ireturn, 40, 0, 0)]
set_option maxRecDepth 20000 in
/-- 290: StoneHomeModel.hold(I)Z -/
def at_X11_hold : List (Nat × am_I) := [(0, .iload_n 1, 1, 1, 0), (1, .iconst 0, 2, 0, 0), (2, .iconst 2, 3, 0, 0), (3, .invokestatic 353, 6, 230, 3), (6, .ifCond .ne 5, 9, 11, 0), (9, .iconst 0, 10, 0, 0), (10, .ireturn, 11, 0, 0), (11, .aload_n 0, 12, 0, 0),
  (12, .getfield 161, 15, 11, 68), (15, .iload_n 1, 16, 1, 0), (16, .iconst 1, 17, 0, 0), (17, .bastore, 18, 2, 0), (18, .iconst 0, 19, 0, 0), (19, .istore_n 2, 20, 2, 0), (20, .iload_n 2, 21, 2, 0), (21, .bipush 10, 23, 0, 0),
  (23, .if_icmp .ge 26, 26, 49, 0), (26, .aload_n 0, 27, 0, 0), (27, .getfield 164, 30, 11, 69), (30, .bipush 10, 32, 0, 0), (32, .iload_n 1, 33, 1, 0), (33, .imul, 34, 0, 0), (34, .iload_n 2, 35, 2, 0), (35, .iadd, 36, 0, 0),
  (36, .aload_n 0, 37, 0, 0), (37, .getfield 125, 40, 11, 53), (40, .iload_n 2, 41, 2, 0), (41, .iaload, 42, 0, 0), (42, .iastore, 43, 0, 0), (43, .iinc 2 1, 46, 2, 0), (46, .goto (-26), 49, 20, 0), (49, .iconst 1, 50, 0, 0),
  (50, .ireturn, 51, 0, 0)]
set_option maxRecDepth 20000 in
/-- 291: StoneHomeModel.restore(I)Z -/
def at_X11_restore : List (Nat × am_I) := [(0, .iload_n 1, 1, 1, 0), (1, .iconst 0, 2, 0, 0), (2, .iconst 2, 3, 0, 0), (3, .invokestatic 353, 6, 230, 3), (6, .ifCond .eq 12, 9, 18, 0), (9, .aload_n 0, 10, 0, 0), (10, .getfield 161, 13, 11, 68), (13, .iload_n 1, 14, 1, 0),
  (14, .baload, 15, 2, 0), (15, .ifCond .ne 5, 18, 20, 0), (18, .iconst 0, 19, 0, 0), (19, .ireturn, 20, 0, 0), (20, .iconst 0, 21, 0, 0), (21, .istore_n 2, 22, 2, 0), (22, .iload_n 2, 23, 2, 0), (23, .bipush 10, 25, 0, 0),
  (25, .if_icmp .ge 26, 28, 51, 0), (28, .aload_n 0, 29, 0, 0), (29, .getfield 125, 32, 11, 53), (32, .iload_n 2, 33, 2, 0), (33, .aload_n 0, 34, 0, 0), (34, .getfield 164, 37, 11, 69), (37, .bipush 10, 39, 0, 0), (39, .iload_n 1, 40, 1, 0),
  (40, .imul, 41, 0, 0), (41, .iload_n 2, 42, 2, 0), (42, .iadd, 43, 0, 0), (43, .iaload, 44, 0, 0), (44, .iastore, 45, 0, 0), (45, .iinc 2 1, 48, 2, 0), (48, .goto (-26), 51, 22, 0), (51, .aload_n 0, 52, 0, 0),
  (52, .iconst 0, 53, 0, 0), (53, .putfield 270, 56, 11, 464), (56, .iconst 1, 57, 0, 0), (57, .ireturn, 58, 0, 0)]
set_option maxRecDepth 20000 in
/-- 292: StoneHomeModel.count(I)I -/
def at_X11_count : List (Nat × am_I) := [(0, .iload_n 1, 1, 1, 0), (1, .tableswitch 273 0 10 #[59, 69, 79, 89, 99, 109, 172, 177, 182, 187, 232], 60, 274, 0), (60, .aload_n 0, 61, 0, 0), (61, .getfield 46, 64, 11, 23), (64, .aload_n 0, 65, 0, 0), (65, .getfield 248, 68, 11, 18), (68, .iaload, 69, 0, 0), (69, .ireturn, 70, 0, 0),
  (70, .aload_n 0, 71, 0, 0), (71, .getfield 43, 74, 11, 22), (74, .aload_n 0, 75, 0, 0), (75, .getfield 248, 78, 11, 18), (78, .iaload, 79, 0, 0), (79, .ireturn, 80, 0, 0), (80, .aload_n 0, 81, 0, 0), (81, .getfield 52, 84, 11, 25),
  (84, .aload_n 0, 85, 0, 0), (85, .getfield 248, 88, 11, 18), (88, .iaload, 89, 0, 0), (89, .ireturn, 90, 0, 0), (90, .aload_n 0, 91, 0, 0), (91, .getfield 55, 94, 11, 26), (94, .aload_n 0, 95, 0, 0), (95, .getfield 248, 98, 11, 18),
  (98, .iaload, 99, 0, 0), (99, .ireturn, 100, 0, 0), (100, .aload_n 0, 101, 0, 0), (101, .getfield 82, 104, 11, 35), (104, .aload_n 0, 105, 0, 0), (105, .getfield 248, 108, 11, 18), (108, .iaload, 109, 0, 0), (109, .ireturn, 110, 0, 0),
  (110, .iconst 0, 111, 0, 0), (111, .istore_n 2, 112, 2, 0), (112, .iconst 0, 113, 0, 0), (113, .istore_n 3, 114, 3, 0), (114, .iload_n 3, 115, 3, 0), (115, .aload_n 0, 116, 0, 0), (116, .getfield 43, 119, 11, 22), (119, .aload_n 0, 120, 0, 0),
  (120, .getfield 248, 123, 11, 18), (123, .iaload, 124, 0, 0), (124, .if_icmp .ge 47, 127, 171, 0), (127, .iconst 0, 128, 0, 0), (128, .istore 4, 130, 4, 0), (130, .iload 4, 132, 4, 0), (132, .aload_n 0, 133, 0, 0), (133, .getfield 46, 136, 11, 23),
  (136, .aload_n 0, 137, 0, 0), (137, .getfield 248, 140, 11, 18), (140, .iaload, 141, 0, 0), (141, .if_icmp .ge 24, 144, 165, 0), (144, .aload_n 0, 145, 0, 0), (145, .iload 4, 147, 4, 0), (147, .iload_n 3, 148, 3, 0), (148, .invokevirtual 331, 151, 227, 2),
  (151, .bipush 6, 153, 0, 0), (153, .if_icmp .ne 6, 156, 159, 0), (156, .iinc 2 1, 159, 2, 0), (159, .iinc 4 1, 162, 4, 0), (162, .goto (-32), 165, 130, 0), (165, .iinc 3 1, 168, 3, 0), (168, .goto (-54), 171, 114, 0), (171, .iload_n 2, 172, 2, 0),
  (172, .ireturn, 173, 0, 0), (173, .aload_n 0, 174, 0, 0), (174, .getfield 181, 177, 11, 2), (177, .ireturn, 178, 0, 0), (178, .aload_n 0, 179, 0, 0), (179, .getfield 270, 182, 11, 58), (182, .ireturn, 183, 0, 0), (183, .aload_n 0, 184, 0, 0),
  (184, .getfield 273, 187, 11, 63), (187, .ireturn, 188, 0, 0), (188, .aload_n 0, 189, 0, 0), (189, .getfield 161, 192, 11, 68), (192, .iconst 0, 193, 0, 0), (193, .baload, 194, 2, 0), (194, .ifCond .eq 7, 197, 201, 0), (197, .iconst 1, 198, 0, 0),
  (198, .goto 4, 201, 202, 0), (201, .iconst 0, 202, 0, 0), (202, .aload_n 0, 203, 0, 0), (203, .getfield 161, 206, 11, 68), (206, .iconst 1, 207, 0, 0), (207, .baload, 208, 2, 0), (208, .ifCond .eq 7, 211, 215, 0), (211, .iconst 1, 212, 0, 0),
  (212, .goto 4, 215, 216, 0), (215, .iconst 0, 216, 0, 0), (216, .iadd, 217, 0, 0), (217, .aload_n 0, 218, 0, 0), (218, .getfield 161, 221, 11, 68), (221, .iconst 2, 222, 0, 0), (222, .baload, 223, 2, 0), (223, .ifCond .eq 7, 226, 230, 0),
  (226, .iconst 1, 227, 0, 0), (227, .goto 4, 230, 231, 0), (230, .iconst 0, 231, 0, 0), (231, .iadd, 232, 0, 0), (232, .ireturn, 233, 0, 0), (233, .iconst 0, 234, 0, 0), (234, .istore_n 2, 235, 2, 0), (235, .iconst 0, 236, 0, 0),
  (236, .istore_n 3, 237, 3, 0), (237, .iload_n 3, 238, 3, 0), (238, .aload_n 0, 239, 0, 0), (239, .getfield 55, 242, 11, 26), (242, .aload_n 0, 243, 0, 0), (243, .getfield 248, 246, 11, 18), (246, .iaload, 247, 0, 0), (247, .if_icmp .ge 25, 250, 272, 0),
  (250, .iload_n 2, 251, 2, 0), (251, .aload_n 0, 252, 0, 0), (252, .getfield 58, 255, 11, 27), (255, .iconst 4, 256, 0, 0), (256, .aload_n 0, 257, 0, 0), (257, .getfield 248, 260, 11, 18), (260, .imul, 261, 0, 0), (261, .iload_n 3, 262, 3, 0),
  (262, .iadd, 263, 0, 0), (263, .iaload, 264, 0, 0), (264, .iadd, 265, 0, 0), (265, .istore_n 2, 266, 2, 0), (266, .iinc 3 1, 269, 3, 0), (269, .goto (-32), 272, 237, 0), (272, .iload_n 2, 273, 2, 0), (273, .ireturn, 274, 0, 0),
  (274, .iconst (-1), 275, 0, 0), (275, .ireturn, 276, 0, 0)]
set_option maxRecDepth 20000 in
/-- 293: java/util/Arrays.fill([II)V -/
def at_X13_fill : List (Nat × am_I) := [(0, .iconst 0, 1, 0, 0), (1, .istore_n 2, 2, 2, 0), (2, .aload_n 0, 3, 0, 0), (3, .arraylength, 4, 0, 0), (4, .istore_n 3, 5, 3, 0), (5, .iload_n 2, 6, 2, 0), (6, .iload_n 3, 7, 3, 0), (7, .if_icmp .ge 13, 10, 20, 0),
  (10, .aload_n 0, 11, 0, 0), (11, .iload_n 2, 12, 2, 0), (12, .iload_n 1, 13, 1, 0), (13, .iastore, 14, 0, 0), (14, .iinc 2 1, 17, 2, 0), (17, .goto (-12), 20, 5, 0), (20, .return_, 21, 0, 0)]
set_option maxRecDepth 20000 in
/-- 294: java/lang/String.length()I -/
def at_X15_length : List (Nat × am_I) := [(0, .aload_n 0, 1, 0, 0), (1, .getfield 9, 4, 15, 0), (4, .arraylength, 5, 0, 0), (5, .aload_n 0, 6, 0, 0), (6, .invokevirtual 335, 9, 295, 0), (9, .ishr, 10, 0, 0), (10, .ireturn, 11, 0, 0)]
set_option maxRecDepth 20000 in
/-- 295: java/lang/String.coder()B -/
def at_X15_coder : List (Nat × am_I) := [(0, .getstatic 38, 3, 1, 0), (3, .ifCond .eq 10, 6, 13, 0), (6, .aload_n 0, 7, 0, 0), (7, .getfield 15, 10, 15, 1), (10, .goto 4, 13, 14, 0), (13, .iconst 1, 14, 0, 0), (14, .ireturn, 15, 0, 0)]
set_option maxRecDepth 20000 in
/-- 296: java/lang/String.charAt(I)C -/
def at_X15_charAt : List (Nat × am_I) := [(0, .aload_n 0, 1, 0, 0), (1, .invokevirtual 492, 4, 297, 0), (4, .ifCond .eq 12, 7, 16, 0), (7, .aload_n 0, 8, 0, 0), (8, .getfield 9, 11, 15, 0), (11, .iload_n 1, 12, 1, 0), (12, .invokestatic 495, 15, 300, 2), (15, .ireturn, 16, 0, 0),
  (16, .aload_n 0, 17, 0, 0), (17, .getfield 9, 20, 15, 0), (20, .iload_n 1, 21, 1, 0)]
set_option maxRecDepth 20000 in
/-- 297: java/lang/String.isLatin1()Z -/
def at_X15_isLatin1 : List (Nat × am_I) := [(0, .getstatic 38, 3, 1, 0), (3, .ifCond .eq 14, 6, 17, 0), (6, .aload_n 0, 7, 0, 0), (7, .getfield 15, 10, 15, 1), (10, .ifCond .ne 7, 13, 17, 0), (13, .iconst 1, 14, 0, 0), (14, .goto 4, 17, 18, 0), (17, .iconst 0, 18, 0, 0),
  (18, .ireturn, 19, 0, 0)]
set_option maxRecDepth 20000 in
/-- 298: java/lang/String.indexOf(I)I -/
def at_X15_indexOf_0 : List (Nat × am_I) := [(0, .aload_n 0, 1, 0, 0), (1, .iload_n 1, 2, 1, 0), (2, .iconst 0, 3, 0, 0), (3, .invokevirtual 633, 6, 299, 2), (6, .ireturn, 7, 0, 0)]
set_option maxRecDepth 20000 in
/-- 299: java/lang/String.indexOf(II)I -/
def at_X15_indexOf_1 : List (Nat × am_I) := [(0, .aload_n 0, 1, 0, 0), (1, .invokevirtual 492, 4, 297, 0), (4, .ifCond .eq 19, 7, 23, 0), (7, .aload_n 0, 8, 0, 0), (8, .getfield 9, 11, 15, 0), (11, .iload_n 1, 12, 1, 0), (12, .iload_n 2, 13, 2, 0), (13, .aload_n 0, 14, 0, 0),
  (14, .invokevirtual 505, 17, 294, 0), (17, .invokestatic 637, 20, 301, 4), (20, .goto 16, 23, 36, 0), (23, .aload_n 0, 24, 0, 0), (24, .getfield 9, 27, 15, 0), (27, .iload_n 1, 28, 1, 0), (28, .iload_n 2, 29, 2, 0), (29, .aload_n 0, 30, 0, 0),
  (30, .invokevirtual 505, 33, 294, 0), (36, .ireturn, 37, 0, 0)]
set_option maxRecDepth 20000 in
/-- 300: java/lang/StringLatin1.charAt([BI)C -/
def at_X16_charAt : List (Nat × am_I) := [(0, .iload_n 1, 1, 1, 0), (1, .aload_n 0, 2, 0, 0), (2, .arraylength, 3, 0, 0), (3, .invokestatic 9, 6, 994, 2), (6, .aload_n 0, 7, 0, 0), (7, .iload_n 1, 8, 1, 0), (8, .baload, 9, 1, 0), (9, .sipush 255, 12, 0, 0),
  (12, .iand, 13, 0, 0), (13, .i2c, 14, 0, 0), (14, .ireturn, 15, 0, 0)]
set_option maxRecDepth 20000 in
/-- 301: java/lang/StringLatin1.indexOf([BIII)I -/
def at_X16_indexOf : List (Nat × am_I) := [(0, .iload_n 1, 1, 1, 0), (1, .invokestatic 88, 4, 302, 1), (4, .ifCond .ne 5, 7, 9, 0), (7, .iconst (-1), 8, 0, 0), (8, .ireturn, 9, 0, 0), (9, .iload_n 2, 10, 2, 0), (10, .iconst 0, 11, 0, 0), (11, .invokestatic 92, 14, 996, 2),
  (14, .istore_n 2, 15, 2, 0), (15, .iload_n 3, 16, 3, 0), (16, .aload_n 0, 17, 0, 0), (17, .arraylength, 18, 0, 0), (18, .invokestatic 38, 21, 997, 2), (21, .istore_n 3, 22, 3, 0), (22, .iload_n 2, 23, 2, 0), (23, .iload_n 3, 24, 3, 0),
  (24, .if_icmp .lt 5, 27, 29, 0), (27, .iconst (-1), 28, 0, 0), (28, .ireturn, 29, 0, 0), (29, .aload_n 0, 30, 0, 0), (30, .iload_n 1, 31, 1, 0), (31, .iload_n 2, 32, 2, 0), (32, .iload_n 3, 33, 3, 0), (33, .invokestatic 95, 36, 303, 4),
  (36, .ireturn, 37, 0, 0)]
set_option maxRecDepth 20000 in
/-- 302: java/lang/StringLatin1.canEncode(I)Z -/
def at_X16_canEncode : List (Nat × am_I) := [(0, .iload_n 0, 1, 0, 0), (1, .ifCond .lt 14, 4, 15, 0), (4, .iload_n 0, 5, 0, 0), (5, .sipush 255, 8, 0, 0), (8, .if_icmp .gt 7, 11, 15, 0), (11, .iconst 1, 12, 0, 0), (12, .goto 4, 15, 16, 0), (15, .iconst 0, 16, 0, 0),
  (16, .ireturn, 17, 0, 0)]
set_option maxRecDepth 20000 in
/-- 303: java/lang/StringLatin1.indexOfChar([BIII)I -/
def at_X16_indexOfChar : List (Nat × am_I) := [(0, .iload_n 1, 1, 1, 0), (1, .i2b, 2, 0, 0), (2, .istore 4, 4, 4, 0), (4, .iload_n 2, 5, 2, 0), (5, .istore 5, 7, 5, 0), (7, .iload 5, 9, 5, 0), (9, .iload_n 3, 10, 3, 0), (10, .if_icmp .ge 21, 13, 31, 0),
  (13, .aload_n 0, 14, 0, 0), (14, .iload 5, 16, 5, 0), (16, .baload, 17, 1, 0), (17, .iload 4, 19, 4, 0), (19, .if_icmp .ne 6, 22, 25, 0), (22, .iload 5, 24, 5, 0), (24, .ireturn, 25, 0, 0), (25, .iinc 5 1, 28, 5, 0),
  (28, .goto (-21), 31, 7, 0), (31, .iconst (-1), 32, 0, 0), (32, .ireturn, 33, 0, 0)]
set_option maxRecDepth 20000 in
/-- 304: StoneHomeLaw.law([I)Z -/
def at_L_law : List (Nat × am_I) := [(0, .new 7, 3, 10, 0), (3, .dup, 4, 0, 0), (4, .invokespecial 9, 7, 128, 0), (7, .astore_n 1, 8, 1, 0), (8, .new 10, 11, 11, 0), (11, .dup, 12, 0, 0), (12, .invokespecial 12, 15, 185, 0), (15, .astore_n 2, 16, 2, 0),
  (16, .iconst 0, 17, 0, 0), (17, .istore_n 3, 18, 3, 0), (18, .iload_n 3, 19, 3, 0), (19, .aload_n 0, 20, 0, 0), (20, .arraylength, 21, 0, 0), (21, .bipush 6, 23, 0, 0), (23, .isub, 24, 0, 0), (24, .if_icmp .gt 1197, 27, 1221, 0),
  (27, .aload_n 0, 28, 0, 0), (28, .iload_n 3, 29, 3, 0), (29, .iaload, 30, 0, 0), (30, .bipush 63, 32, 0, 0), (32, .iand, 33, 0, 0), (33, .tableswitch 1182 0 32 #[147, 210, 233, 246, 259, 282, 315, 358, 381, 394, 417, 430, 473, 522, 545, 568, 591, 650, 729, 804, 827, 850, 873, 916, 939, 988, 1001, 1034, 1047, 1080, 1113, 1136, 1159], 180, 1215, 0), (180, .aload_n 1, 181, 1, 0), (181, .aload_n 0, 182, 0, 0),
  (182, .iload_n 3, 183, 3, 0), (183, .iconst 1, 184, 0, 0), (184, .iadd, 185, 0, 0), (185, .iaload, 186, 0, 0), (186, .aload_n 0, 187, 0, 0), (187, .iload_n 3, 188, 3, 0), (188, .iconst 2, 189, 0, 0), (189, .iadd, 190, 0, 0),
  (190, .iaload, 191, 0, 0), (191, .aload_n 0, 192, 0, 0), (192, .iload_n 3, 193, 3, 0), (193, .iconst 3, 194, 0, 0), (194, .iadd, 195, 0, 0), (195, .iaload, 196, 0, 0), (196, .aload_n 0, 197, 0, 0), (197, .iload_n 3, 198, 3, 0),
  (198, .iconst 4, 199, 0, 0), (199, .iadd, 200, 0, 0), (200, .iaload, 201, 0, 0), (201, .aload_n 0, 202, 0, 0), (202, .iload_n 3, 203, 3, 0), (203, .iconst 5, 204, 0, 0), (204, .iadd, 205, 0, 0), (205, .iaload, 206, 0, 0),
  (206, .invokevirtual 13, 209, 132, 5), (209, .aload_n 2, 210, 2, 0), (210, .aload_n 0, 211, 0, 0), (211, .iload_n 3, 212, 3, 0), (212, .iconst 1, 213, 0, 0), (213, .iadd, 214, 0, 0), (214, .iaload, 215, 0, 0), (215, .aload_n 0, 216, 0, 0),
  (216, .iload_n 3, 217, 3, 0), (217, .iconst 2, 218, 0, 0), (218, .iadd, 219, 0, 0), (219, .iaload, 220, 0, 0), (220, .aload_n 0, 221, 0, 0), (221, .iload_n 3, 222, 3, 0), (222, .iconst 3, 223, 0, 0), (223, .iadd, 224, 0, 0),
  (224, .iaload, 225, 0, 0), (225, .aload_n 0, 226, 0, 0), (226, .iload_n 3, 227, 3, 0), (227, .iconst 4, 228, 0, 0), (228, .iadd, 229, 0, 0), (229, .iaload, 230, 0, 0), (230, .aload_n 0, 231, 0, 0), (231, .iload_n 3, 232, 3, 0),
  (232, .iconst 5, 233, 0, 0), (233, .iadd, 234, 0, 0), (234, .iaload, 235, 0, 0), (235, .invokevirtual 17, 238, 191, 5), (238, .if_icmp .eq 977, 241, 1215, 0), (241, .iconst 0, 242, 0, 0), (242, .ireturn, 243, 0, 0), (243, .aload_n 1, 244, 1, 0),
  (244, .aload_n 0, 245, 0, 0), (245, .iload_n 3, 246, 3, 0), (246, .iconst 1, 247, 0, 0), (247, .iadd, 248, 0, 0), (248, .iaload, 249, 0, 0), (249, .invokevirtual 18, 252, 134, 1), (252, .aload_n 2, 253, 2, 0), (253, .aload_n 0, 254, 0, 0),
  (254, .iload_n 3, 255, 3, 0), (255, .iconst 1, 256, 0, 0), (256, .iadd, 257, 0, 0), (257, .iaload, 258, 0, 0), (258, .invokevirtual 22, 261, 193, 1), (261, .if_icmp .eq 954, 264, 1215, 0), (264, .iconst 0, 265, 0, 0), (265, .ireturn, 266, 0, 0),
  (266, .aload_n 1, 267, 1, 0), (267, .invokevirtual 23, 270, 135, 0), (270, .aload_n 2, 271, 2, 0), (271, .invokevirtual 27, 274, 194, 0), (274, .if_icmp .eq 941, 277, 1215, 0), (277, .iconst 0, 278, 0, 0), (278, .ireturn, 279, 0, 0), (279, .aload_n 1, 280, 1, 0),
  (280, .invokevirtual 28, 283, 136, 0), (283, .aload_n 2, 284, 2, 0), (284, .invokevirtual 31, 287, 219, 0), (287, .if_icmp .eq 928, 290, 1215, 0), (290, .iconst 0, 291, 0, 0), (291, .ireturn, 292, 0, 0), (292, .aload_n 1, 293, 1, 0), (293, .aload_n 0, 294, 0, 0),
  (294, .iload_n 3, 295, 3, 0), (295, .iconst 1, 296, 0, 0), (296, .iadd, 297, 0, 0), (297, .iaload, 298, 0, 0), (298, .invokevirtual 32, 301, 137, 1), (301, .aload_n 2, 302, 2, 0), (302, .aload_n 0, 303, 0, 0), (303, .iload_n 3, 304, 3, 0),
  (304, .iconst 1, 305, 0, 0), (305, .iadd, 306, 0, 0), (306, .iaload, 307, 0, 0), (307, .invokevirtual 35, 310, 220, 1), (310, .if_icmp .eq 905, 313, 1215, 0), (313, .iconst 0, 314, 0, 0), (314, .ireturn, 315, 0, 0), (315, .aload_n 1, 316, 1, 0),
  (316, .aload_n 0, 317, 0, 0), (317, .iload_n 3, 318, 3, 0), (318, .iconst 1, 319, 0, 0), (319, .iadd, 320, 0, 0), (320, .iaload, 321, 0, 0), (321, .aload_n 0, 322, 0, 0), (322, .iload_n 3, 323, 3, 0), (323, .iconst 2, 324, 0, 0),
  (324, .iadd, 325, 0, 0), (325, .iaload, 326, 0, 0), (326, .invokevirtual 36, 329, 140, 2), (329, .aload_n 2, 330, 2, 0), (330, .aload_n 0, 331, 0, 0), (331, .iload_n 3, 332, 3, 0), (332, .iconst 1, 333, 0, 0), (333, .iadd, 334, 0, 0),
  (334, .iaload, 335, 0, 0), (335, .aload_n 0, 336, 0, 0), (336, .iload_n 3, 337, 3, 0), (337, .iconst 2, 338, 0, 0), (338, .iadd, 339, 0, 0), (339, .iaload, 340, 0, 0), (340, .invokevirtual 40, 343, 228, 2), (343, .if_icmp .eq 872, 346, 1215, 0),
  (346, .iconst 0, 347, 0, 0), (347, .ireturn, 348, 0, 0), (348, .aload_n 1, 349, 1, 0), (349, .aload_n 0, 350, 0, 0), (350, .iload_n 3, 351, 3, 0), (351, .iconst 1, 352, 0, 0), (352, .iadd, 353, 0, 0), (353, .iaload, 354, 0, 0),
  (354, .aload_n 0, 355, 0, 0), (355, .iload_n 3, 356, 3, 0), (356, .iconst 2, 357, 0, 0), (357, .iadd, 358, 0, 0), (358, .iaload, 359, 0, 0), (359, .aload_n 0, 360, 0, 0), (360, .iload_n 3, 361, 3, 0), (361, .iconst 3, 362, 0, 0),
  (362, .iadd, 363, 0, 0), (363, .iaload, 364, 0, 0), (364, .invokevirtual 41, 367, 141, 3), (367, .aload_n 2, 368, 2, 0), (368, .aload_n 0, 369, 0, 0), (369, .iload_n 3, 370, 3, 0), (370, .iconst 1, 371, 0, 0), (371, .iadd, 372, 0, 0),
  (372, .iaload, 373, 0, 0), (373, .aload_n 0, 374, 0, 0), (374, .iload_n 3, 375, 3, 0), (375, .iconst 2, 376, 0, 0), (376, .iadd, 377, 0, 0), (377, .iaload, 378, 0, 0), (378, .aload_n 0, 379, 0, 0), (379, .iload_n 3, 380, 3, 0),
  (380, .iconst 3, 381, 0, 0), (381, .iadd, 382, 0, 0), (382, .iaload, 383, 0, 0), (383, .invokevirtual 45, 386, 231, 3), (386, .if_icmp .eq 829, 389, 1215, 0), (389, .iconst 0, 390, 0, 0), (390, .ireturn, 391, 0, 0), (391, .aload_n 1, 392, 1, 0),
  (392, .aload_n 0, 393, 0, 0), (393, .iload_n 3, 394, 3, 0), (394, .iconst 1, 395, 0, 0), (395, .iadd, 396, 0, 0), (396, .iaload, 397, 0, 0), (397, .invokevirtual 46, 400, 142, 1), (400, .aload_n 2, 401, 2, 0), (401, .aload_n 0, 402, 0, 0),
  (402, .iload_n 3, 403, 3, 0), (403, .iconst 1, 404, 0, 0), (404, .iadd, 405, 0, 0), (405, .iaload, 406, 0, 0), (406, .invokevirtual 49, 409, 235, 1), (409, .if_icmp .eq 806, 412, 1215, 0), (412, .iconst 0, 413, 0, 0), (413, .ireturn, 414, 0, 0),
  (414, .aload_n 1, 415, 1, 0), (415, .invokevirtual 50, 418, 148, 0), (418, .aload_n 2, 419, 2, 0), (419, .invokevirtual 53, 422, 246, 0), (422, .if_icmp .eq 793, 425, 1215, 0), (425, .iconst 0, 426, 0, 0), (426, .ireturn, 427, 0, 0), (427, .aload_n 1, 428, 1, 0),
  (428, .aload_n 0, 429, 0, 0), (429, .iload_n 3, 430, 3, 0), (430, .iconst 1, 431, 0, 0), (431, .iadd, 432, 0, 0), (432, .iaload, 433, 0, 0), (433, .invokevirtual 54, 436, 149, 1), (436, .aload_n 2, 437, 2, 0), (437, .aload_n 0, 438, 0, 0),
  (438, .iload_n 3, 439, 3, 0), (439, .iconst 1, 440, 0, 0), (440, .iadd, 441, 0, 0), (441, .iaload, 442, 0, 0), (442, .invokevirtual 58, 445, 248, 1), (445, .if_icmp .eq 770, 448, 1215, 0), (448, .iconst 0, 449, 0, 0), (449, .ireturn, 450, 0, 0),
  (450, .aload_n 1, 451, 1, 0), (451, .invokevirtual 59, 454, 151, 0), (454, .aload_n 2, 455, 2, 0), (455, .invokevirtual 63, 458, 250, 0), (458, .if_icmp .eq 757, 461, 1215, 0), (461, .iconst 0, 462, 0, 0), (462, .ireturn, 463, 0, 0), (463, .aload_n 1, 464, 1, 0),
  (464, .aload_n 0, 465, 0, 0), (465, .iload_n 3, 466, 3, 0), (466, .iconst 1, 467, 0, 0), (467, .iadd, 468, 0, 0), (468, .iaload, 469, 0, 0), (469, .aload_n 0, 470, 0, 0), (470, .iload_n 3, 471, 3, 0), (471, .iconst 2, 472, 0, 0),
  (472, .iadd, 473, 0, 0), (473, .iaload, 474, 0, 0), (474, .aload_n 0, 475, 0, 0), (475, .iload_n 3, 476, 3, 0), (476, .iconst 3, 477, 0, 0), (477, .iadd, 478, 0, 0), (478, .iaload, 479, 0, 0), (479, .invokevirtual 64, 482, 152, 3),
  (482, .aload_n 2, 483, 2, 0), (483, .aload_n 0, 484, 0, 0), (484, .iload_n 3, 485, 3, 0), (485, .iconst 1, 486, 0, 0), (486, .iadd, 487, 0, 0), (487, .iaload, 488, 0, 0), (488, .aload_n 0, 489, 0, 0), (489, .iload_n 3, 490, 3, 0),
  (490, .iconst 2, 491, 0, 0), (491, .iadd, 492, 0, 0), (492, .iaload, 493, 0, 0), (493, .aload_n 0, 494, 0, 0), (494, .iload_n 3, 495, 3, 0), (495, .iconst 3, 496, 0, 0), (496, .iadd, 497, 0, 0), (497, .iaload, 498, 0, 0),
  (498, .invokevirtual 67, 501, 251, 3), (501, .if_icmp .eq 714, 504, 1215, 0), (504, .iconst 0, 505, 0, 0), (505, .ireturn, 506, 0, 0), (506, .aload_n 1, 507, 1, 0), (507, .aload_n 0, 508, 0, 0), (508, .iload_n 3, 509, 3, 0), (509, .iconst 1, 510, 0, 0),
  (510, .iadd, 511, 0, 0), (511, .iaload, 512, 0, 0), (512, .aload_n 0, 513, 0, 0), (513, .iload_n 3, 514, 3, 0), (514, .iconst 2, 515, 0, 0), (515, .iadd, 516, 0, 0), (516, .iaload, 517, 0, 0), (517, .ifCond .eq 7, 520, 524, 0),
  (520, .iconst 1, 521, 0, 0), (521, .goto 4, 524, 525, 0), (524, .iconst 0, 525, 0, 0), (525, .invokevirtual 68, 528, 153, 2), (528, .aload_n 2, 529, 2, 0), (529, .aload_n 0, 530, 0, 0), (530, .iload_n 3, 531, 3, 0), (531, .iconst 1, 532, 0, 0),
  (532, .iadd, 533, 0, 0), (533, .iaload, 534, 0, 0), (534, .aload_n 0, 535, 0, 0), (535, .iload_n 3, 536, 3, 0), (536, .iconst 2, 537, 0, 0), (537, .iadd, 538, 0, 0), (538, .iaload, 539, 0, 0), (539, .ifCond .eq 7, 542, 546, 0),
  (542, .iconst 1, 543, 0, 0), (543, .goto 4, 546, 547, 0), (546, .iconst 0, 547, 0, 0), (547, .invokevirtual 72, 550, 253, 2), (550, .if_icmp .eq 665, 553, 1215, 0), (553, .iconst 0, 554, 0, 0), (554, .ireturn, 555, 0, 0), (555, .aload_n 1, 556, 1, 0),
  (556, .aload_n 0, 557, 0, 0), (557, .iload_n 3, 558, 3, 0), (558, .iconst 1, 559, 0, 0), (559, .iadd, 560, 0, 0), (560, .iaload, 561, 0, 0), (561, .invokevirtual 73, 564, 159, 1), (564, .aload_n 2, 565, 2, 0), (565, .aload_n 0, 566, 0, 0),
  (566, .iload_n 3, 567, 3, 0), (567, .iconst 1, 568, 0, 0), (568, .iadd, 569, 0, 0), (569, .iaload, 570, 0, 0), (570, .invokevirtual 76, 573, 264, 1), (573, .if_icmp .eq 642, 576, 1215, 0), (576, .iconst 0, 577, 0, 0), (577, .ireturn, 578, 0, 0),
  (578, .aload_n 1, 579, 1, 0), (579, .aload_n 0, 580, 0, 0), (580, .iload_n 3, 581, 3, 0), (581, .iconst 1, 582, 0, 0), (582, .iadd, 583, 0, 0), (583, .iaload, 584, 0, 0), (584, .invokevirtual 77, 587, 161, 1), (587, .aload_n 2, 588, 2, 0),
  (588, .aload_n 0, 589, 0, 0), (589, .iload_n 3, 590, 3, 0), (590, .iconst 1, 591, 0, 0), (591, .iadd, 592, 0, 0), (592, .iaload, 593, 0, 0), (593, .invokevirtual 80, 596, 265, 1), (596, .if_icmp .eq 619, 599, 1215, 0), (599, .iconst 0, 600, 0, 0),
  (600, .ireturn, 601, 0, 0), (601, .aload_n 1, 602, 1, 0), (602, .aload_n 0, 603, 0, 0), (603, .iload_n 3, 604, 3, 0), (604, .iconst 1, 605, 0, 0), (605, .iadd, 606, 0, 0), (606, .iaload, 607, 0, 0), (607, .invokevirtual 81, 610, 162, 1),
  (610, .aload_n 2, 611, 2, 0), (611, .aload_n 0, 612, 0, 0), (612, .iload_n 3, 613, 3, 0), (613, .iconst 1, 614, 0, 0), (614, .iadd, 615, 0, 0), (615, .iaload, 616, 0, 0), (616, .invokevirtual 84, 619, 266, 1), (619, .if_icmp .eq 596, 622, 1215, 0),
  (622, .iconst 0, 623, 0, 0), (623, .ireturn, 624, 0, 0), (624, .aload_n 1, 625, 1, 0), (625, .aload_n 0, 626, 0, 0), (626, .iload_n 3, 627, 3, 0), (627, .iconst 1, 628, 0, 0), (628, .iadd, 629, 0, 0), (629, .iaload, 630, 0, 0),
  (630, .aload_n 0, 631, 0, 0), (631, .iload_n 3, 632, 3, 0), (632, .iconst 2, 633, 0, 0), (633, .iadd, 634, 0, 0), (634, .iaload, 635, 0, 0), (635, .aload_n 0, 636, 0, 0), (636, .iload_n 3, 637, 3, 0), (637, .iconst 3, 638, 0, 0),
  (638, .iadd, 639, 0, 0), (639, .iaload, 640, 0, 0), (640, .ifCond .eq 7, 643, 647, 0), (643, .iconst 1, 644, 0, 0), (644, .goto 4, 647, 648, 0), (647, .iconst 0, 648, 0, 0), (648, .invokevirtual 85, 651, 163, 3), (651, .aload_n 2, 652, 2, 0),
  (652, .aload_n 0, 653, 0, 0), (653, .iload_n 3, 654, 3, 0), (654, .iconst 1, 655, 0, 0), (655, .iadd, 656, 0, 0), (656, .iaload, 657, 0, 0), (657, .aload_n 0, 658, 0, 0), (658, .iload_n 3, 659, 3, 0), (659, .iconst 2, 660, 0, 0),
  (660, .iadd, 661, 0, 0), (661, .iaload, 662, 0, 0), (662, .aload_n 0, 663, 0, 0), (663, .iload_n 3, 664, 3, 0), (664, .iconst 3, 665, 0, 0), (665, .iadd, 666, 0, 0), (666, .iaload, 667, 0, 0), (667, .ifCond .eq 7, 670, 674, 0),
  (670, .iconst 1, 671, 0, 0), (671, .goto 4, 674, 675, 0), (674, .iconst 0, 675, 0, 0), (675, .invokevirtual 89, 678, 267, 3), (678, .if_icmp .eq 537, 681, 1215, 0), (681, .iconst 0, 682, 0, 0), (682, .ireturn, 683, 0, 0), (683, .aload_n 1, 684, 1, 0),
  (684, .aload_n 0, 685, 0, 0), (685, .iload_n 3, 686, 3, 0), (686, .iconst 1, 687, 0, 0), (687, .iadd, 688, 0, 0), (688, .iaload, 689, 0, 0), (689, .aload_n 0, 690, 0, 0), (690, .iload_n 3, 691, 3, 0), (691, .iconst 2, 692, 0, 0),
  (692, .iadd, 693, 0, 0), (693, .iaload, 694, 0, 0), (694, .aload_n 0, 695, 0, 0), (695, .iload_n 3, 696, 3, 0), (696, .iconst 3, 697, 0, 0), (697, .iadd, 698, 0, 0), (698, .iaload, 699, 0, 0), (699, .aload_n 0, 700, 0, 0),
  (700, .iload_n 3, 701, 3, 0), (701, .iconst 4, 702, 0, 0), (702, .iadd, 703, 0, 0), (703, .iaload, 704, 0, 0), (704, .aload_n 0, 705, 0, 0), (705, .iload_n 3, 706, 3, 0), (706, .iconst 5, 707, 0, 0), (707, .iadd, 708, 0, 0),
  (708, .iaload, 709, 0, 0), (709, .ifCond .eq 7, 712, 716, 0), (712, .iconst 1, 713, 0, 0), (713, .goto 4, 716, 717, 0), (716, .iconst 0, 717, 0, 0), (717, .invokevirtual 90, 720, 165, 5), (720, .aload_n 2, 721, 2, 0), (721, .aload_n 0, 722, 0, 0),
  (722, .iload_n 3, 723, 3, 0), (723, .iconst 1, 724, 0, 0), (724, .iadd, 725, 0, 0), (725, .iaload, 726, 0, 0), (726, .aload_n 0, 727, 0, 0), (727, .iload_n 3, 728, 3, 0), (728, .iconst 2, 729, 0, 0), (729, .iadd, 730, 0, 0),
  (730, .iaload, 731, 0, 0), (731, .aload_n 0, 732, 0, 0), (732, .iload_n 3, 733, 3, 0), (733, .iconst 3, 734, 0, 0), (734, .iadd, 735, 0, 0), (735, .iaload, 736, 0, 0), (736, .aload_n 0, 737, 0, 0), (737, .iload_n 3, 738, 3, 0),
  (738, .iconst 4, 739, 0, 0), (739, .iadd, 740, 0, 0), (740, .iaload, 741, 0, 0), (741, .aload_n 0, 742, 0, 0), (742, .iload_n 3, 743, 3, 0), (743, .iconst 5, 744, 0, 0), (744, .iadd, 745, 0, 0), (745, .iaload, 746, 0, 0),
  (746, .ifCond .eq 7, 749, 753, 0), (749, .iconst 1, 750, 0, 0), (750, .goto 4, 753, 754, 0), (753, .iconst 0, 754, 0, 0), (754, .invokevirtual 94, 757, 269, 5), (757, .if_icmp .eq 458, 760, 1215, 0), (760, .iconst 0, 761, 0, 0), (761, .ireturn, 762, 0, 0),
  (762, .aload_n 1, 763, 1, 0), (763, .aload_n 0, 764, 0, 0), (764, .iload_n 3, 765, 3, 0), (765, .iconst 1, 766, 0, 0), (766, .iadd, 767, 0, 0), (767, .iaload, 768, 0, 0), (768, .aload_n 0, 769, 0, 0), (769, .iload_n 3, 770, 3, 0),
  (770, .iconst 2, 771, 0, 0), (771, .iadd, 772, 0, 0), (772, .iaload, 773, 0, 0), (773, .ifCond .eq 7, 776, 780, 0), (776, .iconst 1, 777, 0, 0), (777, .goto 4, 780, 781, 0), (780, .iconst 0, 781, 0, 0), (781, .aload_n 0, 782, 0, 0),
  (782, .iload_n 3, 783, 3, 0), (783, .iconst 3, 784, 0, 0), (784, .iadd, 785, 0, 0), (785, .iaload, 786, 0, 0), (786, .ifCond .eq 7, 789, 793, 0), (789, .iconst 1, 790, 0, 0), (790, .goto 4, 793, 794, 0), (793, .iconst 0, 794, 0, 0),
  (794, .invokevirtual 95, 797, 166, 3), (797, .aload_n 2, 798, 2, 0), (798, .aload_n 0, 799, 0, 0), (799, .iload_n 3, 800, 3, 0), (800, .iconst 1, 801, 0, 0), (801, .iadd, 802, 0, 0), (802, .iaload, 803, 0, 0), (803, .aload_n 0, 804, 0, 0),
  (804, .iload_n 3, 805, 3, 0), (805, .iconst 2, 806, 0, 0), (806, .iadd, 807, 0, 0), (807, .iaload, 808, 0, 0), (808, .ifCond .eq 7, 811, 815, 0), (811, .iconst 1, 812, 0, 0), (812, .goto 4, 815, 816, 0), (815, .iconst 0, 816, 0, 0),
  (816, .aload_n 0, 817, 0, 0), (817, .iload_n 3, 818, 3, 0), (818, .iconst 3, 819, 0, 0), (819, .iadd, 820, 0, 0), (820, .iaload, 821, 0, 0), (821, .ifCond .eq 7, 824, 828, 0), (824, .iconst 1, 825, 0, 0), (825, .goto 4, 828, 829, 0),
  (828, .iconst 0, 829, 0, 0), (829, .invokevirtual 99, 832, 272, 3), (832, .if_icmp .eq 383, 835, 1215, 0), (835, .iconst 0, 836, 0, 0), (836, .ireturn, 837, 0, 0), (837, .aload_n 1, 838, 1, 0), (838, .aload_n 0, 839, 0, 0), (839, .iload_n 3, 840, 3, 0),
  (840, .iconst 1, 841, 0, 0), (841, .iadd, 842, 0, 0), (842, .iaload, 843, 0, 0), (843, .invokevirtual 100, 846, 168, 1), (846, .aload_n 2, 847, 2, 0), (847, .aload_n 0, 848, 0, 0), (848, .iload_n 3, 849, 3, 0), (849, .iconst 1, 850, 0, 0),
  (850, .iadd, 851, 0, 0), (851, .iaload, 852, 0, 0), (852, .invokevirtual 103, 855, 273, 1), (855, .if_icmp .eq 360, 858, 1215, 0), (858, .iconst 0, 859, 0, 0), (859, .ireturn, 860, 0, 0), (860, .aload_n 1, 861, 1, 0), (861, .aload_n 0, 862, 0, 0),
  (862, .iload_n 3, 863, 3, 0), (863, .iconst 1, 864, 0, 0), (864, .iadd, 865, 0, 0), (865, .iaload, 866, 0, 0), (866, .invokevirtual 104, 869, 169, 1), (869, .aload_n 2, 870, 2, 0), (870, .aload_n 0, 871, 0, 0), (871, .iload_n 3, 872, 3, 0),
  (872, .iconst 1, 873, 0, 0), (873, .iadd, 874, 0, 0), (874, .iaload, 875, 0, 0), (875, .invokevirtual 107, 878, 274, 1), (878, .if_icmp .eq 337, 881, 1215, 0), (881, .iconst 0, 882, 0, 0), (882, .ireturn, 883, 0, 0), (883, .aload_n 1, 884, 1, 0),
  (884, .aload_n 0, 885, 0, 0), (885, .iload_n 3, 886, 3, 0), (886, .iconst 1, 887, 0, 0), (887, .iadd, 888, 0, 0), (888, .iaload, 889, 0, 0), (889, .invokevirtual 108, 892, 170, 1), (892, .aload_n 2, 893, 2, 0), (893, .aload_n 0, 894, 0, 0),
  (894, .iload_n 3, 895, 3, 0), (895, .iconst 1, 896, 0, 0), (896, .iadd, 897, 0, 0), (897, .iaload, 898, 0, 0), (898, .invokevirtual 111, 901, 275, 1), (901, .if_icmp .eq 314, 904, 1215, 0), (904, .iconst 0, 905, 0, 0), (905, .ireturn, 906, 0, 0),
  (906, .aload_n 1, 907, 1, 0), (907, .aload_n 0, 908, 0, 0), (908, .iload_n 3, 909, 3, 0), (909, .iconst 1, 910, 0, 0), (910, .iadd, 911, 0, 0), (911, .iaload, 912, 0, 0), (912, .aload_n 0, 913, 0, 0), (913, .iload_n 3, 914, 3, 0),
  (914, .iconst 2, 915, 0, 0), (915, .iadd, 916, 0, 0), (916, .iaload, 917, 0, 0), (917, .aload_n 0, 918, 0, 0), (918, .iload_n 3, 919, 3, 0), (919, .iconst 3, 920, 0, 0), (920, .iadd, 921, 0, 0), (921, .iaload, 922, 0, 0),
  (922, .invokevirtual 112, 925, 172, 3), (925, .aload_n 2, 926, 2, 0), (926, .aload_n 0, 927, 0, 0), (927, .iload_n 3, 928, 3, 0), (928, .iconst 1, 929, 0, 0), (929, .iadd, 930, 0, 0), (930, .iaload, 931, 0, 0), (931, .aload_n 0, 932, 0, 0),
  (932, .iload_n 3, 933, 3, 0), (933, .iconst 2, 934, 0, 0), (934, .iadd, 935, 0, 0), (935, .iaload, 936, 0, 0), (936, .aload_n 0, 937, 0, 0), (937, .iload_n 3, 938, 3, 0), (938, .iconst 3, 939, 0, 0), (939, .iadd, 940, 0, 0),
  (940, .iaload, 941, 0, 0), (941, .invokevirtual 115, 944, 276, 3), (944, .if_icmp .eq 271, 947, 1215, 0), (947, .iconst 0, 948, 0, 0), (948, .ireturn, 949, 0, 0), (949, .aload_n 1, 950, 1, 0), (950, .aload_n 0, 951, 0, 0), (951, .iload_n 3, 952, 3, 0),
  (952, .iconst 1, 953, 0, 0), (953, .iadd, 954, 0, 0), (954, .iaload, 955, 0, 0), (955, .invokevirtual 116, 958, 173, 1), (958, .aload_n 2, 959, 2, 0), (959, .aload_n 0, 960, 0, 0), (960, .iload_n 3, 961, 3, 0), (961, .iconst 1, 962, 0, 0),
  (962, .iadd, 963, 0, 0), (963, .iaload, 964, 0, 0), (964, .invokevirtual 119, 967, 277, 1), (967, .if_icmp .eq 248, 970, 1215, 0), (970, .iconst 0, 971, 0, 0), (971, .ireturn, 972, 0, 0), (972, .aload_n 1, 973, 1, 0), (973, .aload_n 0, 974, 0, 0),
  (974, .iload_n 3, 975, 3, 0), (975, .iconst 1, 976, 0, 0), (976, .iadd, 977, 0, 0), (977, .iaload, 978, 0, 0), (978, .aload_n 0, 979, 0, 0), (979, .iload_n 3, 980, 3, 0), (980, .iconst 2, 981, 0, 0), (981, .iadd, 982, 0, 0),
  (982, .iaload, 983, 0, 0), (983, .ifCond .eq 7, 986, 990, 0), (986, .iconst 1, 987, 0, 0), (987, .goto 4, 990, 991, 0), (990, .iconst 0, 991, 0, 0), (991, .invokevirtual 120, 994, 175, 2), (994, .aload_n 2, 995, 2, 0), (995, .aload_n 0, 996, 0, 0),
  (996, .iload_n 3, 997, 3, 0), (997, .iconst 1, 998, 0, 0), (998, .iadd, 999, 0, 0), (999, .iaload, 1000, 0, 0), (1000, .aload_n 0, 1001, 0, 0), (1001, .iload_n 3, 1002, 3, 0), (1002, .iconst 2, 1003, 0, 0), (1003, .iadd, 1004, 0, 0),
  (1004, .iaload, 1005, 0, 0), (1005, .ifCond .eq 7, 1008, 1012, 0), (1008, .iconst 1, 1009, 0, 0), (1009, .goto 4, 1012, 1013, 0), (1012, .iconst 0, 1013, 0, 0), (1013, .invokevirtual 123, 1016, 278, 2), (1016, .if_icmp .eq 199, 1019, 1215, 0), (1019, .iconst 0, 1020, 0, 0),
  (1020, .ireturn, 1021, 0, 0), (1021, .aload_n 1, 1022, 1, 0), (1022, .invokevirtual 124, 1025, 176, 0), (1025, .aload_n 2, 1026, 2, 0), (1026, .invokevirtual 127, 1029, 252, 0), (1029, .if_icmp .eq 186, 1032, 1215, 0), (1032, .iconst 0, 1033, 0, 0), (1033, .ireturn, 1034, 0, 0),
  (1034, .aload_n 1, 1035, 1, 0), (1035, .aload_n 0, 1036, 0, 0), (1036, .iload_n 3, 1037, 3, 0), (1037, .iconst 1, 1038, 0, 0), (1038, .iadd, 1039, 0, 0), (1039, .iaload, 1040, 0, 0), (1040, .aload_n 0, 1041, 0, 0), (1041, .iload_n 3, 1042, 3, 0),
  (1042, .iconst 2, 1043, 0, 0), (1043, .iadd, 1044, 0, 0), (1044, .iaload, 1045, 0, 0), (1045, .invokevirtual 128, 1048, 177, 2), (1048, .aload_n 2, 1049, 2, 0), (1049, .aload_n 0, 1050, 0, 0), (1050, .iload_n 3, 1051, 3, 0), (1051, .iconst 1, 1052, 0, 0),
  (1052, .iadd, 1053, 0, 0), (1053, .iaload, 1054, 0, 0), (1054, .aload_n 0, 1055, 0, 0), (1055, .iload_n 3, 1056, 3, 0), (1056, .iconst 2, 1057, 0, 0), (1057, .iadd, 1058, 0, 0), (1058, .iaload, 1059, 0, 0), (1059, .invokevirtual 131, 1062, 283, 2),
  (1062, .if_icmp .eq 153, 1065, 1215, 0), (1065, .iconst 0, 1066, 0, 0), (1066, .ireturn, 1067, 0, 0), (1067, .aload_n 1, 1068, 1, 0), (1068, .invokevirtual 132, 1071, 178, 0), (1071, .aload_n 2, 1072, 2, 0), (1072, .invokevirtual 135, 1075, 284, 0), (1075, .if_icmp .eq 140, 1078, 1215, 0),
  (1078, .iconst 0, 1079, 0, 0), (1079, .ireturn, 1080, 0, 0), (1080, .aload_n 1, 1081, 1, 0), (1081, .aload_n 0, 1082, 0, 0), (1082, .iload_n 3, 1083, 3, 0), (1083, .iconst 1, 1084, 0, 0), (1084, .iadd, 1085, 0, 0), (1085, .iaload, 1086, 0, 0),
  (1086, .aload_n 0, 1087, 0, 0), (1087, .iload_n 3, 1088, 3, 0), (1088, .iconst 2, 1089, 0, 0), (1089, .iadd, 1090, 0, 0), (1090, .iaload, 1091, 0, 0), (1091, .invokevirtual 136, 1094, 179, 2), (1094, .aload_n 2, 1095, 2, 0), (1095, .aload_n 0, 1096, 0, 0),
  (1096, .iload_n 3, 1097, 3, 0), (1097, .iconst 1, 1098, 0, 0), (1098, .iadd, 1099, 0, 0), (1099, .iaload, 1100, 0, 0), (1100, .aload_n 0, 1101, 0, 0), (1101, .iload_n 3, 1102, 3, 0), (1102, .iconst 2, 1103, 0, 0), (1103, .iadd, 1104, 0, 0),
  (1104, .iaload, 1105, 0, 0), (1105, .invokevirtual 139, 1108, 285, 2), (1108, .if_icmp .eq 107, 1111, 1215, 0), (1111, .iconst 0, 1112, 0, 0), (1112, .ireturn, 1113, 0, 0), (1113, .aload_n 1, 1114, 1, 0), (1114, .aload_n 0, 1115, 0, 0), (1115, .iload_n 3, 1116, 3, 0),
  (1116, .iconst 1, 1117, 0, 0), (1117, .iadd, 1118, 0, 0), (1118, .iaload, 1119, 0, 0), (1119, .aload_n 0, 1120, 0, 0), (1120, .iload_n 3, 1121, 3, 0), (1121, .iconst 2, 1122, 0, 0), (1122, .iadd, 1123, 0, 0), (1123, .iaload, 1124, 0, 0),
  (1124, .invokevirtual 140, 1127, 180, 2), (1127, .aload_n 2, 1128, 2, 0), (1128, .aload_n 0, 1129, 0, 0), (1129, .iload_n 3, 1130, 3, 0), (1130, .iconst 1, 1131, 0, 0), (1131, .iadd, 1132, 0, 0), (1132, .iaload, 1133, 0, 0), (1133, .aload_n 0, 1134, 0, 0),
  (1134, .iload_n 3, 1135, 3, 0), (1135, .iconst 2, 1136, 0, 0), (1136, .iadd, 1137, 0, 0), (1137, .iaload, 1138, 0, 0), (1138, .invokevirtual 143, 1141, 289, 2), (1141, .if_icmp .eq 74, 1144, 1215, 0), (1144, .iconst 0, 1145, 0, 0), (1145, .ireturn, 1146, 0, 0),
  (1146, .aload_n 1, 1147, 1, 0), (1147, .aload_n 0, 1148, 0, 0), (1148, .iload_n 3, 1149, 3, 0), (1149, .iconst 1, 1150, 0, 0), (1150, .iadd, 1151, 0, 0), (1151, .iaload, 1152, 0, 0), (1152, .invokevirtual 144, 1155, 181, 1), (1155, .aload_n 2, 1156, 2, 0),
  (1156, .aload_n 0, 1157, 0, 0), (1157, .iload_n 3, 1158, 3, 0), (1158, .iconst 1, 1159, 0, 0), (1159, .iadd, 1160, 0, 0), (1160, .iaload, 1161, 0, 0), (1161, .invokevirtual 147, 1164, 290, 1), (1164, .if_icmp .eq 51, 1167, 1215, 0), (1167, .iconst 0, 1168, 0, 0),
  (1168, .ireturn, 1169, 0, 0), (1169, .aload_n 1, 1170, 1, 0), (1170, .aload_n 0, 1171, 0, 0), (1171, .iload_n 3, 1172, 3, 0), (1172, .iconst 1, 1173, 0, 0), (1173, .iadd, 1174, 0, 0), (1174, .iaload, 1175, 0, 0), (1175, .invokevirtual 148, 1178, 182, 1),
  (1178, .aload_n 2, 1179, 2, 0), (1179, .aload_n 0, 1180, 0, 0), (1180, .iload_n 3, 1181, 3, 0), (1181, .iconst 1, 1182, 0, 0), (1182, .iadd, 1183, 0, 0), (1183, .iaload, 1184, 0, 0), (1184, .invokevirtual 151, 1187, 291, 1), (1187, .if_icmp .eq 28, 1190, 1215, 0),
  (1190, .iconst 0, 1191, 0, 0), (1191, .ireturn, 1192, 0, 0), (1192, .aload_n 1, 1193, 1, 0), (1193, .aload_n 0, 1194, 0, 0), (1194, .iload_n 3, 1195, 3, 0), (1195, .iconst 1, 1196, 0, 0), (1196, .iadd, 1197, 0, 0), (1197, .iaload, 1198, 0, 0),
  (1198, .invokevirtual 152, 1201, 183, 1), (1201, .aload_n 2, 1202, 2, 0), (1202, .aload_n 0, 1203, 0, 0), (1203, .iload_n 3, 1204, 3, 0), (1204, .iconst 1, 1205, 0, 0), (1205, .iadd, 1206, 0, 0), (1206, .iaload, 1207, 0, 0), (1207, .invokevirtual 155, 1210, 292, 1),
  (1210, .if_icmp .eq 5, 1213, 1215, 0), (1213, .iconst 0, 1214, 0, 0), (1214, .ireturn, 1215, 0, 0), (1215, .iinc 3 6, 1218, 3, 0), (1218, .goto (-1200), 1221, 18, 0), (1221, .iconst 1, 1222, 0, 0), (1222, .ireturn, 1223, 0, 0)]
def am_pb0 : List am_M := [(0, 3, 0, at_X0_init), (0, 2, 0, at_X0_follow), (0, 7, 0, at_X0_look), (0, 2, 0, at_X0_swap),
  (0, 7, 0, at_X0_fillLayer), (0, 5, 1, at_X0_chanceThere), (0, 9, 1, at_X0_chanceBy), (0, 4, 1, at_X0_laterChance),
  (0, 3, 1, at_X0_placeFor), (0, 4, 1, at_X0_chanceAtRest), (0, 4, 1, at_X0_chance), (0, 8, 1, at_X0_bestAction),
  (1, 1, 0, at_X1_init), (1, 1, 0, at_X1_clear), (1, 2, 0, at_X1_start), (1, 2, 0, at_X1_push)]
def am_yb0 : List MethodName := [⟨"StoneHome$Forecast", "<init>", "(LStoneHome$Table;LStoneHome$Street;)V"⟩, ⟨"StoneHome$Forecast", "follow", "(LStoneHome$Street;)V"⟩,
  ⟨"StoneHome$Forecast", "look", "(IIII)V"⟩, ⟨"StoneHome$Forecast", "swap", "()V"⟩,
  ⟨"StoneHome$Forecast", "fillLayer", "(I)V"⟩, ⟨"StoneHome$Forecast", "chanceThere", "(II)I"⟩,
  ⟨"StoneHome$Forecast", "chanceBy", "(III)I"⟩, ⟨"StoneHome$Forecast", "laterChance", "(II)I"⟩,
  ⟨"StoneHome$Forecast", "placeFor", "(II)I"⟩, ⟨"StoneHome$Forecast", "chanceAtRest", "(II)I"⟩,
  ⟨"StoneHome$Forecast", "chance", "(II)I"⟩, ⟨"StoneHome$Forecast", "bestAction", "(III)I"⟩,
  ⟨"StoneHome$Laws", "<init>", "()V"⟩, ⟨"StoneHome$Laws", "clear", "()V"⟩,
  ⟨"StoneHome$Laws", "start", "(I)V"⟩, ⟨"StoneHome$Laws", "push", "(I)V"⟩]
def am_cb0 : List ByteArray := [prog_2_method_1_code, prog_2_method_2_code, prog_2_method_3_code, prog_2_method_6_code, prog_2_method_7_code, prog_2_method_9_code, prog_2_method_10_code, prog_2_method_11_code,
  prog_2_method_12_code, prog_2_method_8_code, prog_2_method_4_code, prog_2_method_5_code, prog_3_method_1_code, prog_3_method_2_code, prog_3_method_3_code, prog_3_method_8_code]
def am_pb1 : List am_M := [(1, 3, 1, at_X1_add), (1, 2, 0, at_X1_markTimed), (1, 2, 0, at_X1_close), (1, 1, 1, at_X1_lastWaiting),
  (1, 3, 0, at_X1_addOperator), (1, 2, 0, at_X1_aim), (1, 5, 0, at_X1_setWhere), (1, 4, 0, at_X1_setHow),
  (1, 7, 1, at_X1_value), (1, 2, 1, at_X1_factAt), (1, 3, 1, at_X1_joined), (1, 1, 2, at_X1_areTimed),
  (2, 2, 0, at_X2_init), (2, 1, 0, at_X2_clear), (2, 2, 0, at_X2_keep), (2, 2, 2, at_X2_takeBack)]
def am_yb1 : List MethodName := [⟨"StoneHome$Laws", "add", "(II)I"⟩, ⟨"StoneHome$Laws", "markTimed", "(I)V"⟩,
  ⟨"StoneHome$Laws", "close", "()V"⟩, ⟨"StoneHome$Laws", "lastWaiting", "()I"⟩,
  ⟨"StoneHome$Laws", "addOperator", "(I)V"⟩, ⟨"StoneHome$Laws", "aim", "(I)V"⟩,
  ⟨"StoneHome$Laws", "setWhere", "(IIII)V"⟩, ⟨"StoneHome$Laws", "setHow", "(III)V"⟩,
  ⟨"StoneHome$Laws", "value", "(I)I"⟩, ⟨"StoneHome$Laws", "factAt", "(I)I"⟩,
  ⟨"StoneHome$Laws", "joined", "(III)I"⟩, ⟨"StoneHome$Laws", "areTimed", "()Z"⟩,
  ⟨"StoneHome$Past", "<init>", "()V"⟩, ⟨"StoneHome$Past", "clear", "()V"⟩,
  ⟨"StoneHome$Past", "keep", "(LStoneHome$Stone;)V"⟩, ⟨"StoneHome$Past", "takeBack", "(LStoneHome$Stone;)Z"⟩]
def am_cb1 : List ByteArray := [prog_3_method_4_code, prog_3_method_5_code, prog_3_method_7_code, prog_3_method_9_code, prog_3_method_6_code, prog_3_method_10_code, prog_3_method_12_code, prog_3_method_13_code,
  prog_3_method_14_code, prog_3_method_15_code, prog_3_method_16_code, prog_3_method_11_code, prog_4_method_1_code, prog_4_method_2_code, prog_4_method_3_code, prog_4_method_4_code]
def am_pb2 : List am_M := [(3, 3, 0, at_X3_init), (3, 2, 0, at_X3_follow), (3, 7, 1, at_X3_chance), (3, 9, 0, at_X3_reach),
  (3, 8, 0, at_X3_reachBy), (3, 6, 0, at_X3_takeMyTurn), (3, 5, 1, at_X3_myBest), (3, 10, 1, at_X3_chanceBy),
  (3, 5, 0, at_X3_takeHisTurn), (3, 4, 1, at_X3_hisBest), (4, 3, 0, at_X4_init), (4, 4, 1, at_X4_readText),
  (4, 1, 0, at_X4_take), (4, 1, 0, at_X4_takeTell), (4, 1, 0, at_X4_takeRow), (4, 2, 0, at_X4_fail)]
def am_yb2 : List MethodName := [⟨"StoneHome$Race", "<init>", "(LStoneHome$Table;LStoneHome$Street;)V"⟩, ⟨"StoneHome$Race", "follow", "(LStoneHome$Street;)V"⟩,
  ⟨"StoneHome$Race", "chance", "(IIII)I"⟩, ⟨"StoneHome$Race", "reach", "([IIII)V"⟩,
  ⟨"StoneHome$Race", "reachBy", "(II[II)V"⟩, ⟨"StoneHome$Race", "takeMyTurn", "(II)V"⟩,
  ⟨"StoneHome$Race", "myBest", "(II)I"⟩, ⟨"StoneHome$Race", "chanceBy", "(IIII)I"⟩,
  ⟨"StoneHome$Race", "takeHisTurn", "(I)V"⟩, ⟨"StoneHome$Race", "hisBest", "(I)I"⟩,
  ⟨"StoneHome$Reader", "<init>", "([BLStoneHome$Street;)V"⟩, ⟨"StoneHome$Reader", "readText", "(LStoneHome$Street;I)I"⟩,
  ⟨"StoneHome$Reader", "take", "()V"⟩, ⟨"StoneHome$Reader", "takeTell", "()V"⟩,
  ⟨"StoneHome$Reader", "takeRow", "()V"⟩, ⟨"StoneHome$Reader", "fail", "(I)V"⟩]
def am_cb2 : List ByteArray := [prog_5_method_1_code, prog_5_method_2_code, prog_5_method_3_code, prog_5_method_4_code, prog_5_method_5_code, prog_5_method_6_code, prog_5_method_8_code, prog_5_method_10_code,
  prog_5_method_7_code, prog_5_method_9_code, prog_6_method_1_code, prog_6_method_2_code, prog_6_method_25_code, prog_6_method_5_code, prog_6_method_7_code, prog_6_method_26_code]
def am_pb3 : List am_M := [(4, 4, 2, at_X4_layRow), (4, 3, 0, at_X4_failLate), (4, 5, 0, at_X4_takeKick), (4, 4, 2, at_X4_isToldKick),
  (4, 5, 1, at_X4_takeOutcomes), (4, 7, 1, at_X4_takeOutcome), (4, 4, 1, at_X4_takeInt), (4, 2, 0, at_X4_takeWord),
  (4, 2, 2, at_X4_isWord), (4, 2, 2, at_X4_isSign), (4, 3, 0, at_X4_takeLaw), (4, 2, 0, at_X4_takeSign),
  (4, 2, 0, at_X4_takeBranch), (4, 5, 0, at_X4_takeFormula), (4, 1, 1, at_X4_operatorNext), (4, 2, 0, at_X4_takeOpening)]
def am_yb3 : List MethodName := [⟨"StoneHome$Reader", "layRow", "()Z"⟩, ⟨"StoneHome$Reader", "failLate", "(II)V"⟩,
  ⟨"StoneHome$Reader", "takeKick", "()V"⟩, ⟨"StoneHome$Reader", "isToldKick", "(J)Z"⟩,
  ⟨"StoneHome$Reader", "takeOutcomes", "(I)I"⟩, ⟨"StoneHome$Reader", "takeOutcome", "(I)I"⟩,
  ⟨"StoneHome$Reader", "takeInt", "(II)I"⟩, ⟨"StoneHome$Reader", "takeWord", "(I)V"⟩,
  ⟨"StoneHome$Reader", "isWord", "(I)Z"⟩, ⟨"StoneHome$Reader", "isSign", "(C)Z"⟩,
  ⟨"StoneHome$Reader", "takeLaw", "(I)V"⟩, ⟨"StoneHome$Reader", "takeSign", "(C)V"⟩,
  ⟨"StoneHome$Reader", "takeBranch", "()V"⟩, ⟨"StoneHome$Reader", "takeFormula", "()V"⟩,
  ⟨"StoneHome$Reader", "operatorNext", "()I"⟩, ⟨"StoneHome$Reader", "takeOpening", "(I)V"⟩]
def am_cb3 : List ByteArray := [prog_6_method_8_code, prog_6_method_27_code, prog_6_method_9_code, prog_6_method_10_code, prog_6_method_11_code, prog_6_method_12_code, prog_6_method_20_code, prog_6_method_21_code,
  prog_6_method_23_code, prog_6_method_24_code, prog_6_method_14_code, prog_6_method_22_code, prog_6_method_15_code, prog_6_method_16_code, prog_6_method_19_code, prog_6_method_17_code]
def am_pb4 : List am_M := [(4, 1, 0, at_X4_takeUnit), (4, 3, 0, at_X4_takeSpot), (4, 1, 0, at_X4_takeSetting), (4, 2, 0, at_X4_judge),
  (4, 1, 1, at_X4_placeOfFault), (5, 1, 0, at_X5_init), (5, 2, 1, at_X5_clear), (5, 2, 1, at_X5_add),
  (5, 2, 2, at_X5_knows), (5, 6, 0, at_X5_weigh), (5, 10, 0, at_X5_weighKick), (5, 4, 1, at_X5_placeFor),
  (5, 4, 1, at_X5_howMany), (5, 6, 1, at_X5_weight), (5, 7, 1, at_X5_pass), (5, 5, 1, at_X5_codeOf)]
def am_yb4 : List MethodName := [⟨"StoneHome$Reader", "takeUnit", "()V"⟩, ⟨"StoneHome$Reader", "takeSpot", "([I)V"⟩,
  ⟨"StoneHome$Reader", "takeSetting", "()V"⟩, ⟨"StoneHome$Reader", "judge", "(I)V"⟩,
  ⟨"StoneHome$Reader", "placeOfFault", "()I"⟩, ⟨"StoneHome$Scratches", "<init>", "()V"⟩,
  ⟨"StoneHome$Scratches", "clear", "()I"⟩, ⟨"StoneHome$Scratches", "add", "(I)I"⟩,
  ⟨"StoneHome$Scratches", "knows", "(I)Z"⟩, ⟨"StoneHome$Scratches", "weigh", "(LStoneHome$Street;I)V"⟩,
  ⟨"StoneHome$Scratches", "weighKick", "(LStoneHome$Street;III)V"⟩, ⟨"StoneHome$Scratches", "placeFor", "(IIII)I"⟩,
  ⟨"StoneHome$Scratches", "howMany", "(I)I"⟩, ⟨"StoneHome$Scratches", "weight", "(II)I"⟩,
  ⟨"StoneHome$Scratches", "pass", "(II)I"⟩, ⟨"StoneHome$Scratches", "codeOf", "(II)I"⟩]
def am_cb4 : List ByteArray := [prog_6_method_18_code, prog_6_method_13_code, prog_6_method_6_code, prog_6_method_4_code, prog_6_method_3_code, prog_7_method_1_code, prog_7_method_2_code, prog_7_method_3_code,
  prog_7_method_4_code, prog_7_method_5_code, prog_7_method_6_code, prog_7_method_11_code, prog_7_method_7_code, prog_7_method_9_code, prog_7_method_10_code, prog_7_method_8_code]
def am_pb5 : List am_M := [(6, 1, 0, at_X6_init), (6, 3, 0, at_X6_beginOn), (6, 2, 0, at_X6_copyFrom), (6, 1, 1, at_X6_lie),
  (7, 1, 0, at_X7_init), (7, 1, 0, at_X7_layAhead), (7, 1, 0, at_X7_clear), (7, 1, 1, at_X7_stoneLie),
  (7, 2, 1, at_X7_sortOf), (7, 3, 2, at_X7_canLie), (7, 2, 2, at_X7_isHomeLie), (7, 4, 0, at_X7_setSort),
  (7, 1, 2, at_X7_isWhole), (7, 2, 2, at_X7_isSpot), (7, 4, 1, at_X7_sortAt), (7, 3, 2, at_X7_carsCome)]
def am_yb5 : List MethodName := [⟨"StoneHome$Stone", "<init>", "()V"⟩, ⟨"StoneHome$Stone", "beginOn", "(LStoneHome$Street;)V"⟩,
  ⟨"StoneHome$Stone", "copyFrom", "(LStoneHome$Stone;)V"⟩, ⟨"StoneHome$Stone", "lie", "()I"⟩,
  ⟨"StoneHome$Street", "<init>", "()V"⟩, ⟨"StoneHome$Street", "layAhead", "()V"⟩,
  ⟨"StoneHome$Street", "clear", "()V"⟩, ⟨"StoneHome$Street", "stoneLie", "()I"⟩,
  ⟨"StoneHome$Street", "sortOf", "(I)I"⟩, ⟨"StoneHome$Street", "canLie", "(I)Z"⟩,
  ⟨"StoneHome$Street", "isHomeLie", "(I)Z"⟩, ⟨"StoneHome$Street", "setSort", "(III)V"⟩,
  ⟨"StoneHome$Street", "isWhole", "()Z"⟩, ⟨"StoneHome$Street", "isSpot", "([I)Z"⟩,
  ⟨"StoneHome$Street", "sortAt", "(II)I"⟩, ⟨"StoneHome$Street", "carsCome", "(II)Z"⟩]
def am_cb5 : List ByteArray := [prog_8_method_1_code, prog_8_method_3_code, prog_8_method_4_code, prog_8_method_2_code, prog_9_method_1_code, prog_9_method_3_code, prog_9_method_2_code, prog_9_method_16_code,
  prog_9_method_6_code, prog_9_method_7_code, prog_9_method_8_code, prog_9_method_4_code, prog_9_method_19_code, prog_9_method_18_code, prog_9_method_5_code, prog_9_method_22_code]
def am_pb6 : List am_M := [(7, 2, 2, at_X7_hasKick), (7, 3, 2, at_X7_canKickFrom), (7, 8, 1, at_X7_drawnWay), (7, 3, 1, at_X7_lotOfSix),
  (7, 3, 1, at_X7_mix), (7, 2, 1, at_X7_firstWay), (7, 2, 1, at_X7_endOfWays), (7, 2, 1, at_X7_sixthsOf),
  (7, 11, 1, at_X7_landing), (7, 3, 2, at_X7_hasOutcome), (7, 3, 2, at_X7_canDoFrom), (7, 1, 1, at_X7_friendLie),
  (7, 3, 1, at_X7_homeSquares), (7, 3, 1, at_X7_allOutcomes), (8, 2, 0, at_X8_init), (8, 2, 0, at_X8_follow)]
def am_yb6 : List MethodName := [⟨"StoneHome$Street", "hasKick", "(I)Z"⟩, ⟨"StoneHome$Street", "canKickFrom", "(II)Z"⟩,
  ⟨"StoneHome$Street", "drawnWay", "(II)I"⟩, ⟨"StoneHome$Street", "lotOfSix", "(I)I"⟩,
  ⟨"StoneHome$Street", "mix", "(II)I"⟩, ⟨"StoneHome$Street", "firstWay", "(I)I"⟩,
  ⟨"StoneHome$Street", "endOfWays", "(I)I"⟩, ⟨"StoneHome$Street", "sixthsOf", "(I)I"⟩,
  ⟨"StoneHome$Street", "landing", "(III)I"⟩, ⟨"StoneHome$Street", "hasOutcome", "(II)Z"⟩,
  ⟨"StoneHome$Street", "canDoFrom", "(II)Z"⟩, ⟨"StoneHome$Street", "friendLie", "()I"⟩,
  ⟨"StoneHome$Street", "homeSquares", "()I"⟩, ⟨"StoneHome$Street", "allOutcomes", "()I"⟩,
  ⟨"StoneHome$Table", "<init>", "(LStoneHome$Street;)V"⟩, ⟨"StoneHome$Table", "follow", "(LStoneHome$Street;)V"⟩]
def am_cb6 : List ByteArray := [prog_9_method_9_code, prog_9_method_11_code, prog_9_method_24_code, prog_9_method_25_code, prog_9_method_26_code, prog_9_method_13_code, prog_9_method_14_code, prog_9_method_15_code,
  prog_9_method_23_code, prog_9_method_10_code, prog_9_method_12_code, prog_9_method_17_code, prog_9_method_20_code, prog_9_method_21_code, prog_10_method_1_code, prog_10_method_2_code]
def am_pb7 : List am_M := [(8, 3, 0, at_X8_listLies), (8, 2, 1, at_X8_stepThatCounts), (8, 10, 0, at_X8_turnTo), (8, 4, 1, at_X8_landing),
  (9, 2, 0, at_X9_init), (9, 3, 0, at_X9_scan), (9, 1, 0, at_X9_skipBlanks), (9, 1, 2, at_X9_isBlank),
  (9, 1, 0, at_X9_scanOne), (9, 1, 2, at_X9_isLetter), (9, 3, 0, at_X9_scanWord), (9, 7, 1, at_X9_wordNumber),
  (9, 1, 2, at_X9_isDigit), (9, 2, 0, at_X9_scanInt), (9, 2, 3, at_X9_letterAt), (9, 6, 4, at_X9_nameAt)]
def am_yb7 : List MethodName := [⟨"StoneHome$Table", "listLies", "(Z)V"⟩, ⟨"StoneHome$Table", "stepThatCounts", "(I)I"⟩,
  ⟨"StoneHome$Table", "turnTo", "(I)V"⟩, ⟨"StoneHome$Table", "landing", "(II)I"⟩,
  ⟨"StoneHome$Tokens", "<init>", "([B)V"⟩, ⟨"StoneHome$Tokens", "scan", "(I)V"⟩,
  ⟨"StoneHome$Tokens", "skipBlanks", "()V"⟩, ⟨"StoneHome$Tokens", "isBlank", "(I)Z"⟩,
  ⟨"StoneHome$Tokens", "scanOne", "()V"⟩, ⟨"StoneHome$Tokens", "isLetter", "(I)Z"⟩,
  ⟨"StoneHome$Tokens", "scanWord", "()V"⟩, ⟨"StoneHome$Tokens", "wordNumber", "(I)I"⟩,
  ⟨"StoneHome$Tokens", "isDigit", "(I)Z"⟩, ⟨"StoneHome$Tokens", "scanInt", "()V"⟩,
  ⟨"StoneHome$Tokens", "letterAt", "(I)C"⟩, ⟨"StoneHome$Tokens", "nameAt", "(II)J"⟩]
def am_cb7 : List ByteArray := [prog_10_method_3_code, prog_10_method_4_code, prog_10_method_5_code, prog_10_method_6_code, prog_11_method_1_code, prog_11_method_2_code, prog_11_method_5_code, prog_11_method_10_code,
  prog_11_method_6_code, prog_11_method_11_code, prog_11_method_7_code, prog_11_method_9_code, prog_11_method_12_code, prog_11_method_8_code, prog_11_method_3_code, prog_11_method_4_code]
def am_pb8 : List am_M := [(10, 2, 0, at_X10_init), (10, 2, 0, at_X10_begin), (10, 2, 1, at_X10_squareOf), (10, 2, 1, at_X10_lieOf),
  (10, 6, 1, at_X10_feed), (10, 3, 0, at_X10_putBytes), (10, 2, 1, at_X10_back), (10, 3, 1, at_X10_read),
  (10, 1, 1, at_X10_place), (10, 2, 1, at_X10_now), (10, 1, 1, at_X10_alongOf), (10, 1, 1, at_X10_acrossOf),
  (10, 3, 1, at_X10_square), (10, 4, 1, at_X10_cars), (10, 2, 1, at_X10_kick), (10, 2, 2, at_X10_canBeKicked)]
def am_yb8 : List MethodName := [⟨"StoneHome", "<init>", "()V"⟩, ⟨"StoneHome", "begin", "()V"⟩,
  ⟨"StoneHome", "squareOf", "(II)I"⟩, ⟨"StoneHome", "lieOf", "(II)I"⟩,
  ⟨"StoneHome", "feed", "(IIIII)I"⟩, ⟨"StoneHome", "putBytes", "(I)V"⟩,
  ⟨"StoneHome", "back", "(I)I"⟩, ⟨"StoneHome", "read", "()I"⟩,
  ⟨"StoneHome", "place", "()I"⟩, ⟨"StoneHome", "now", "(I)I"⟩,
  ⟨"StoneHome", "alongOf", "(I)I"⟩, ⟨"StoneHome", "acrossOf", "(I)I"⟩,
  ⟨"StoneHome", "square", "(II)I"⟩, ⟨"StoneHome", "cars", "(III)I"⟩,
  ⟨"StoneHome", "kick", "(I)I"⟩, ⟨"StoneHome", "canBeKicked", "(I)Z"⟩]
def am_cb8 : List ByteArray := [prog_1_method_1_code, prog_1_method_35_code, prog_1_method_54_code, prog_1_method_57_code, prog_1_method_2_code, prog_1_method_36_code, prog_1_method_3_code, prog_1_method_4_code,
  prog_1_method_5_code, prog_1_method_6_code, prog_1_method_55_code, prog_1_method_56_code, prog_1_method_7_code, prog_1_method_8_code, prog_1_method_9_code, prog_1_method_37_code]
def am_pb9 : List am_M := [(10, 3, 1, at_X10_comeBy), (10, 2, 1, at_X10_held), (10, 2, 1, at_X10_settle), (10, 1, 1, at_X10_lose),
  (10, 1, 1, at_X10_waits), (10, 3, 2, at_X10_touch), (10, 5, 1, at_X10_touched), (10, 1, 2, at_X10_undo),
  (10, 7, 1, at_X10_brings), (10, 3, 1, at_X10_home), (10, 1, 2, at_X10_isSpan), (10, 2, 1, at_X10_homeChance),
  (10, 1, 1, at_X10_sixesOf), (10, 5, 1, at_X10_fraction), (10, 6, 1, at_X10_commonDivisor), (10, 2, 1, at_X10_best)]
def am_yb9 : List MethodName := [⟨"StoneHome", "comeBy", "(I)I"⟩, ⟨"StoneHome", "held", "(II)I"⟩,
  ⟨"StoneHome", "settle", "(I)I"⟩, ⟨"StoneHome", "lose", "()I"⟩,
  ⟨"StoneHome", "waits", "()I"⟩, ⟨"StoneHome", "touch", "(I)Z"⟩,
  ⟨"StoneHome", "touched", "(I)I"⟩, ⟨"StoneHome", "undo", "()Z"⟩,
  ⟨"StoneHome", "brings", "(III)I"⟩, ⟨"StoneHome", "home", "(IZ)I"⟩,
  ⟨"StoneHome", "isSpan", "(I)Z"⟩, ⟨"StoneHome", "homeChance", "(I)I"⟩,
  ⟨"StoneHome", "sixesOf", "(I)I"⟩, ⟨"StoneHome", "fraction", "(IIZ)I"⟩,
  ⟨"StoneHome", "commonDivisor", "(II)I"⟩, ⟨"StoneHome", "best", "(I)I"⟩]
def am_cb9 : List ByteArray := [prog_1_method_38_code, prog_1_method_53_code, prog_1_method_39_code, prog_1_method_40_code, prog_1_method_10_code, prog_1_method_11_code, prog_1_method_41_code, prog_1_method_12_code,
  prog_1_method_13_code, prog_1_method_14_code, prog_1_method_49_code, prog_1_method_43_code, prog_1_method_50_code, prog_1_method_51_code, prog_1_method_52_code, prog_1_method_15_code]
def am_pb10 : List am_M := [(10, 3, 1, at_X10_bestFrom), (10, 2, 1, at_X10_sure), (10, 3, 1, at_X10_least), (10, 4, 1, at_X10_rule),
  (10, 4, 1, at_X10_ruledChance), (10, 6, 1, at_X10_comes), (10, 6, 1, at_X10_worth), (10, 5, 1, at_X10_touchedChance),
  (10, 6, 1, at_X10_face), (10, 7, 1, at_X10_side), (10, 6, 1, at_X10_goBy), (10, 5, 1, at_X10_chanceBehind),
  (10, 5, 1, at_X10_plan), (10, 4, 1, at_X10_trap), (10, 3, 2, at_X10_isTrap), (10, 4, 1, at_X10_first)]
def am_yb10 : List MethodName := [⟨"StoneHome", "bestFrom", "(II)I"⟩, ⟨"StoneHome", "sure", "(I)I"⟩,
  ⟨"StoneHome", "least", "(I)I"⟩, ⟨"StoneHome", "rule", "(IIZ)I"⟩,
  ⟨"StoneHome", "ruledChance", "(III)I"⟩, ⟨"StoneHome", "comes", "(IIIIZ)I"⟩,
  ⟨"StoneHome", "worth", "(IZZ)I"⟩, ⟨"StoneHome", "touchedChance", "(I)I"⟩,
  ⟨"StoneHome", "face", "(I)I"⟩, ⟨"StoneHome", "side", "(I)I"⟩,
  ⟨"StoneHome", "goBy", "(I)I"⟩, ⟨"StoneHome", "chanceBehind", "(II)I"⟩,
  ⟨"StoneHome", "plan", "(III)I"⟩, ⟨"StoneHome", "trap", "(I)I"⟩,
  ⟨"StoneHome", "isTrap", "(I)Z"⟩, ⟨"StoneHome", "first", "(IZ)I"⟩]
def am_cb10 : List ByteArray := [prog_1_method_45_code, prog_1_method_16_code, prog_1_method_17_code, prog_1_method_18_code, prog_1_method_44_code, prog_1_method_19_code, prog_1_method_20_code, prog_1_method_42_code,
  prog_1_method_21_code, prog_1_method_22_code, prog_1_method_23_code, prog_1_method_46_code, prog_1_method_24_code, prog_1_method_25_code, prog_1_method_47_code, prog_1_method_26_code]
def am_pb11 : List am_M := [(10, 3, 1, at_X10_can), (10, 3, 1, at_X10_tell), (10, 1, 1, at_X10_forget), (10, 3, 1, at_X10_fits),
  (10, 4, 1, at_X10_often), (10, 2, 2, at_X10_hold), (10, 2, 2, at_X10_restore), (10, 2, 1, at_X10_count),
  (10, 3, 1, at_X10_heldSlots), (11, 1, 0, at_X11_init), (11, 3, 0, at_X11_plain), (11, 7, 4, at_X11_word),
  (11, 3, 4, at_X11_appends), (11, 2, 0, at_X11_begins), (11, 2, 0, at_X11_keepsRow), (11, 6, 1, at_X11_feed)]
def am_yb11 : List MethodName := [⟨"StoneHome", "can", "()I"⟩, ⟨"StoneHome", "tell", "(II)I"⟩,
  ⟨"StoneHome", "forget", "()I"⟩, ⟨"StoneHome", "fits", "(II)I"⟩,
  ⟨"StoneHome", "often", "(II)I"⟩, ⟨"StoneHome", "hold", "(I)Z"⟩,
  ⟨"StoneHome", "restore", "(I)Z"⟩, ⟨"StoneHome", "count", "(I)I"⟩,
  ⟨"StoneHome", "heldSlots", "()I"⟩, ⟨"StoneHomeModel", "<init>", "()V"⟩,
  ⟨"StoneHomeModel", "plain", "(I)V"⟩, ⟨"StoneHomeModel", "word", "(IIIIIII)J"⟩,
  ⟨"StoneHomeModel", "appends", "(JI)J"⟩, ⟨"StoneHomeModel", "begins", "()V"⟩,
  ⟨"StoneHomeModel", "keepsRow", "()V"⟩, ⟨"StoneHomeModel", "feed", "(IIIII)I"⟩]
def am_cb11 : List ByteArray := [prog_1_method_27_code, prog_1_method_28_code, prog_1_method_29_code, prog_1_method_30_code, prog_1_method_31_code, prog_1_method_32_code, prog_1_method_33_code, prog_1_method_34_code,
  prog_1_method_48_code, prog_13_method_2_code, prog_13_method_19_code, prog_13_method_10_code, prog_13_method_9_code, prog_13_method_37_code, prog_13_method_38_code, prog_13_method_3_code]
def am_pb12 : List am_M := [(11, 3, 0, at_X11_put), (11, 2, 1, at_X11_back), (11, 2, 1, at_X11_read), (11, 8, 0, at_X11_cut),
  (11, 2, 1, at_X11_byteAt), (11, 6, 0, at_X11_token), (11, 1, 2, at_X11_isLetter), (11, 1, 2, at_X11_isDigit),
  (11, 5, 1, at_X11_sign), (11, 2, 2, at_X11_is), (11, 2, 0, at_X11_tellOne), (11, 2, 0, at_X11_fail),
  (11, 7, 0, at_X11_tellRow), (11, 1, 0, at_X11_goesOn), (11, 2, 0, at_X11_must), (11, 4, 0, at_X11_wrong)]
def am_yb12 : List MethodName := [⟨"StoneHomeModel", "put", "(I)V"⟩, ⟨"StoneHomeModel", "back", "(I)I"⟩,
  ⟨"StoneHomeModel", "read", "()I"⟩, ⟨"StoneHomeModel", "cut", "()V"⟩,
  ⟨"StoneHomeModel", "byteAt", "(I)I"⟩, ⟨"StoneHomeModel", "token", "(IIIJ)V"⟩,
  ⟨"StoneHomeModel", "isLetter", "(I)Z"⟩, ⟨"StoneHomeModel", "isDigit", "(I)Z"⟩,
  ⟨"StoneHomeModel", "sign", "(III)I"⟩, ⟨"StoneHomeModel", "is", "(I)Z"⟩,
  ⟨"StoneHomeModel", "tellOne", "()V"⟩, ⟨"StoneHomeModel", "fail", "(I)V"⟩,
  ⟨"StoneHomeModel", "tellRow", "()V"⟩, ⟨"StoneHomeModel", "goesOn", "()V"⟩,
  ⟨"StoneHomeModel", "must", "(I)V"⟩, ⟨"StoneHomeModel", "wrong", "(II)V"⟩]
def am_cb12 : List ByteArray := [prog_13_method_4_code, prog_13_method_5_code, prog_13_method_20_code, prog_13_method_12_code, prog_13_method_6_code, prog_13_method_11_code, prog_13_method_8_code, prog_13_method_7_code,
  prog_13_method_13_code, prog_13_method_14_code, prog_13_method_23_code, prog_13_method_15_code, prog_13_method_26_code, prog_13_method_17_code, prog_13_method_18_code, prog_13_method_16_code]
def am_pb13 : List am_M := [(11, 1, 1, at_X11_sortBy), (11, 4, 1, at_X11_bounded), (11, 5, 0, at_X11_tellKick), (11, 4, 0, at_X11_tellOutcome),
  (11, 4, 0, at_X11_tellLaw), (11, 3, 0, at_X11_expression), (11, 1, 0, at_X11_unit), (11, 3, 0, at_X11_emit),
  (11, 3, 0, at_X11_comesOut), (11, 1, 0, at_X11_term), (11, 5, 2, at_X11_isThere), (11, 1, 1, at_X11_place),
  (11, 2, 1, at_X11_now), (11, 1, 1, at_X11_stateNow), (11, 4, 1, at_X11_numberOf), (11, 2, 2, at_X11_isHome)]
def am_yb13 : List MethodName := [⟨"StoneHomeModel", "sortBy", "(I)I"⟩, ⟨"StoneHomeModel", "bounded", "(II)I"⟩,
  ⟨"StoneHomeModel", "tellKick", "()V"⟩, ⟨"StoneHomeModel", "tellOutcome", "(I)V"⟩,
  ⟨"StoneHomeModel", "tellLaw", "(I)V"⟩, ⟨"StoneHomeModel", "expression", "()V"⟩,
  ⟨"StoneHomeModel", "unit", "()V"⟩, ⟨"StoneHomeModel", "emit", "(II)V"⟩,
  ⟨"StoneHomeModel", "comesOut", "(Z)V"⟩, ⟨"StoneHomeModel", "term", "()V"⟩,
  ⟨"StoneHomeModel", "isThere", "([I)Z"⟩, ⟨"StoneHomeModel", "place", "()I"⟩,
  ⟨"StoneHomeModel", "now", "(I)I"⟩, ⟨"StoneHomeModel", "stateNow", "()I"⟩,
  ⟨"StoneHomeModel", "numberOf", "(IIII)I"⟩, ⟨"StoneHomeModel", "isHome", "(I)Z"⟩]
def am_cb13 : List ByteArray := [prog_13_method_25_code, prog_13_method_24_code, prog_13_method_27_code, prog_13_method_28_code, prog_13_method_29_code, prog_13_method_33_code, prog_13_method_34_code, prog_13_method_31_code,
  prog_13_method_32_code, prog_13_method_30_code, prog_13_method_22_code, prog_13_method_21_code, prog_13_method_62_code, prog_13_method_47_code, prog_13_method_40_code, prog_13_method_46_code]
def am_pb14 : List am_M := [(11, 2, 1, at_X11_sortOf), (11, 1, 1, at_X11_alongOf), (11, 1, 1, at_X11_acrossOf), (11, 3, 1, at_X11_sortAt),
  (11, 3, 1, at_X11_square), (11, 3, 2, at_X11_isPlace), (11, 3, 2, at_X11_in), (11, 4, 1, at_X11_cars),
  (11, 4, 2, at_X11_isBarred), (11, 6, 1, at_X11_asks), (11, 8, 1, at_X11_termOf), (11, 6, 1, at_X11_kick),
  (11, 1, 2, at_X11_isOver), (11, 3, 2, at_X11_canKick), (11, 3, 1, at_X11_mixed), (11, 13, 1, at_X11_brought)]
def am_yb14 : List MethodName := [⟨"StoneHomeModel", "sortOf", "(I)I"⟩, ⟨"StoneHomeModel", "alongOf", "(I)I"⟩,
  ⟨"StoneHomeModel", "acrossOf", "(I)I"⟩, ⟨"StoneHomeModel", "sortAt", "(II)I"⟩,
  ⟨"StoneHomeModel", "square", "(II)I"⟩, ⟨"StoneHomeModel", "isPlace", "(II)Z"⟩,
  ⟨"StoneHomeModel", "in", "(III)Z"⟩, ⟨"StoneHomeModel", "cars", "(III)I"⟩,
  ⟨"StoneHomeModel", "isBarred", "(III)Z"⟩, ⟨"StoneHomeModel", "asks", "(I)I"⟩,
  ⟨"StoneHomeModel", "termOf", "(II)I"⟩, ⟨"StoneHomeModel", "kick", "(I)I"⟩,
  ⟨"StoneHomeModel", "isOver", "()Z"⟩, ⟨"StoneHomeModel", "canKick", "(II)Z"⟩,
  ⟨"StoneHomeModel", "mixed", "(II)I"⟩, ⟨"StoneHomeModel", "brought", "(IIII)I"⟩]
def am_cb14 : List ByteArray := [prog_13_method_45_code, prog_13_method_42_code, prog_13_method_43_code, prog_13_method_41_code, prog_13_method_64_code, prog_13_method_63_code, prog_13_method_36_code, prog_13_method_65_code,
  prog_13_method_50_code, prog_13_method_48_code, prog_13_method_35_code, prog_13_method_70_code, prog_13_method_67_code, prog_13_method_54_code, prog_13_method_68_code, prog_13_method_52_code]
def am_pb15 : List am_M := [(11, 1, 1, at_X11_faceOf), (11, 2, 1, at_X11_held), (11, 1, 1, at_X11_losing), (11, 4, 1, at_X11_comesTo),
  (11, 2, 0, at_X11_copies), (11, 2, 0, at_X11_keeps), (11, 2, 1, at_X11_waits), (11, 3, 1, at_X11_waited),
  (11, 3, 2, at_X11_touch), (11, 5, 1, at_X11_touched), (11, 2, 2, at_X11_undo), (11, 5, 1, at_X11_brings),
  (11, 3, 1, at_X11_can), (11, 3, 1, at_X11_home), (11, 1, 2, at_X11_isLong), (11, 2, 0, at_X11_fills)]
def am_yb15 : List MethodName := [⟨"StoneHomeModel", "faceOf", "(I)I"⟩, ⟨"StoneHomeModel", "held", "(II)I"⟩,
  ⟨"StoneHomeModel", "losing", "(I)I"⟩, ⟨"StoneHomeModel", "comesTo", "(IZ)I"⟩,
  ⟨"StoneHomeModel", "copies", "()V"⟩, ⟨"StoneHomeModel", "keeps", "()V"⟩,
  ⟨"StoneHomeModel", "waits", "()I"⟩, ⟨"StoneHomeModel", "waited", "(II)I"⟩,
  ⟨"StoneHomeModel", "touch", "(I)Z"⟩, ⟨"StoneHomeModel", "touched", "(II)I"⟩,
  ⟨"StoneHomeModel", "undo", "()Z"⟩, ⟨"StoneHomeModel", "brings", "(III)I"⟩,
  ⟨"StoneHomeModel", "can", "()I"⟩, ⟨"StoneHomeModel", "home", "(IZ)I"⟩,
  ⟨"StoneHomeModel", "isLong", "(I)Z"⟩, ⟨"StoneHomeModel", "fills", "(I)V"⟩]
def am_cb15 : List ByteArray := [prog_13_method_44_code, prog_13_method_49_code, prog_13_method_51_code, prog_13_method_69_code, prog_13_method_39_code, prog_13_method_66_code, prog_13_method_71_code, prog_13_method_53_code,
  prog_13_method_73_code, prog_13_method_72_code, prog_13_method_74_code, prog_13_method_75_code, prog_13_method_76_code, prog_13_method_80_code, prog_13_method_79_code, prog_13_method_61_code]
def am_pb16 : List am_M := [(11, 6, 0, at_X11_fillsFrom), (11, 2, 2, at_X11_isSquare), (11, 3, 1, at_X11_sixes), (11, 6, 0, at_X11_earlier),
  (11, 7, 1, at_X11_bestOf), (11, 6, 1, at_X11_valueOf), (11, 4, 1, at_X11_lineOf), (11, 5, 1, at_X11_common),
  (11, 2, 1, at_X11_best), (11, 2, 1, at_X11_sure), (11, 5, 1, at_X11_least), (11, 4, 1, at_X11_rule),
  (11, 3, 2, at_X11_isRule), (11, 8, 1, at_X11_comes), (11, 6, 0, at_X11_spreads), (11, 5, 0, at_X11_spreadsOne)]
def am_yb16 : List MethodName := [⟨"StoneHomeModel", "fillsFrom", "(IIII)V"⟩, ⟨"StoneHomeModel", "isSquare", "(I)Z"⟩,
  ⟨"StoneHomeModel", "sixes", "(I)I"⟩, ⟨"StoneHomeModel", "earlier", "(III)V"⟩,
  ⟨"StoneHomeModel", "bestOf", "(II)I"⟩, ⟨"StoneHomeModel", "valueOf", "(III)I"⟩,
  ⟨"StoneHomeModel", "lineOf", "(IIZ)I"⟩, ⟨"StoneHomeModel", "common", "(II)I"⟩,
  ⟨"StoneHomeModel", "best", "(I)I"⟩, ⟨"StoneHomeModel", "sure", "(I)I"⟩,
  ⟨"StoneHomeModel", "least", "(I)I"⟩, ⟨"StoneHomeModel", "rule", "(IIZ)I"⟩,
  ⟨"StoneHomeModel", "isRule", "(II)Z"⟩, ⟨"StoneHomeModel", "comes", "(IIIIZ)I"⟩,
  ⟨"StoneHomeModel", "spreads", "(II)V"⟩, ⟨"StoneHomeModel", "spreadsOne", "(III)V"⟩]
def am_cb16 : List ByteArray := [prog_13_method_60_code, prog_13_method_57_code, prog_13_method_55_code, prog_13_method_59_code, prog_13_method_58_code, prog_13_method_56_code, prog_13_method_78_code, prog_13_method_77_code,
  prog_13_method_81_code, prog_13_method_82_code, prog_13_method_83_code, prog_13_method_85_code, prog_13_method_84_code, prog_13_method_88_code, prog_13_method_86_code, prog_13_method_87_code]
def am_pb17 : List am_M := [(11, 8, 1, at_X11_worth), (11, 5, 1, at_X11_face), (11, 5, 1, at_X11_side), (11, 7, 1, at_X11_goBy),
  (11, 5, 1, at_X11_plan), (11, 8, 1, at_X11_trap), (11, 5, 1, at_X11_first), (11, 6, 0, at_X11_fillsCameTo),
  (11, 2, 2, at_X11_isLone), (11, 8, 1, at_X11_pairOf), (11, 9, 1, at_X11_pairBy), (11, 3, 1, at_X11_tell),
  (11, 2, 1, at_X11_forget), (11, 4, 1, at_X11_fits), (11, 5, 1, at_X11_fitting), (11, 6, 1, at_X11_oftenBy)]
def am_yb17 : List MethodName := [⟨"StoneHomeModel", "worth", "(IZZ)I"⟩, ⟨"StoneHomeModel", "face", "(I)I"⟩,
  ⟨"StoneHomeModel", "side", "(I)I"⟩, ⟨"StoneHomeModel", "goBy", "(I)I"⟩,
  ⟨"StoneHomeModel", "plan", "(III)I"⟩, ⟨"StoneHomeModel", "trap", "(I)I"⟩,
  ⟨"StoneHomeModel", "first", "(IZ)I"⟩, ⟨"StoneHomeModel", "fillsCameTo", "(I)V"⟩,
  ⟨"StoneHomeModel", "isLone", "(I)Z"⟩, ⟨"StoneHomeModel", "pairOf", "(IIZI)I"⟩,
  ⟨"StoneHomeModel", "pairBy", "(IIZI)I"⟩, ⟨"StoneHomeModel", "tell", "(II)I"⟩,
  ⟨"StoneHomeModel", "forget", "()I"⟩, ⟨"StoneHomeModel", "fits", "(II)I"⟩,
  ⟨"StoneHomeModel", "fitting", "(II)I"⟩, ⟨"StoneHomeModel", "oftenBy", "(II)I"⟩]
def am_cb17 : List ByteArray := [prog_13_method_89_code, prog_13_method_90_code, prog_13_method_91_code, prog_13_method_92_code, prog_13_method_93_code, prog_13_method_94_code, prog_13_method_99_code, prog_13_method_95_code,
  prog_13_method_98_code, prog_13_method_97_code, prog_13_method_96_code, prog_13_method_100_code, prog_13_method_101_code, prog_13_method_105_code, prog_13_method_104_code, prog_13_method_103_code]
def am_pb18 : List am_M := [(11, 9, 0, at_X11_scratches), (11, 4, 1, at_X11_often), (11, 3, 2, at_X11_hold), (11, 3, 2, at_X11_restore),
  (11, 5, 1, at_X11_count), (13, 4, 0, at_X13_fill), (15, 1, 1, at_X15_length), (15, 1, 5, at_X15_coder),
  (15, 2, 3, at_X15_charAt), (15, 1, 2, at_X15_isLatin1), (15, 2, 1, at_X15_indexOf_0), (15, 3, 1, at_X15_indexOf_1),
  (16, 2, 3, at_X16_charAt), (16, 4, 1, at_X16_indexOf), (16, 1, 2, at_X16_canEncode), (16, 6, 1, at_X16_indexOfChar)]
def am_yb18 : List MethodName := [⟨"StoneHomeModel", "scratches", "(II)V"⟩, ⟨"StoneHomeModel", "often", "(II)I"⟩,
  ⟨"StoneHomeModel", "hold", "(I)Z"⟩, ⟨"StoneHomeModel", "restore", "(I)Z"⟩,
  ⟨"StoneHomeModel", "count", "(I)I"⟩, ⟨"java/util/Arrays", "fill", "([II)V"⟩,
  ⟨"java/lang/String", "length", "()I"⟩, ⟨"java/lang/String", "coder", "()B"⟩,
  ⟨"java/lang/String", "charAt", "(I)C"⟩, ⟨"java/lang/String", "isLatin1", "()Z"⟩,
  ⟨"java/lang/String", "indexOf", "(I)I"⟩, ⟨"java/lang/String", "indexOf", "(II)I"⟩,
  ⟨"java/lang/StringLatin1", "charAt", "([BI)C"⟩, ⟨"java/lang/StringLatin1", "indexOf", "([BIII)I"⟩,
  ⟨"java/lang/StringLatin1", "canEncode", "(I)Z"⟩, ⟨"java/lang/StringLatin1", "indexOfChar", "([BIII)I"⟩]
def am_cb18 : List ByteArray := [prog_13_method_102_code, prog_13_method_106_code, prog_13_method_107_code, prog_13_method_108_code, prog_13_method_109_code, prog_20_method_103_code, prog_16_method_54_code, prog_16_method_152_code,
  prog_16_method_56_code, prog_16_method_154_code, prog_16_method_79_code, prog_16_method_80_code, prog_17_method_2_code, prog_17_method_22_code, prog_17_method_4_code, prog_17_method_23_code]
def am_pb19 : List am_M := [(12, 4, 2, at_L_law)]
def am_yb19 : List MethodName := [⟨"StoneHomeLaw", "law", "([I)Z"⟩]
def am_cb19 : List ByteArray := [code]
def am_pbs : List (List am_M) := [am_pb0, am_pb1, am_pb2, am_pb3, am_pb4, am_pb5, am_pb6, am_pb7, am_pb8, am_pb9, am_pb10, am_pb11, am_pb12, am_pb13, am_pb14, am_pb15, am_pb16, am_pb17, am_pb18, am_pb19]
def am_ybs : List (List MethodName) := [am_yb0, am_yb1, am_yb2, am_yb3, am_yb4, am_yb5, am_yb6, am_yb7, am_yb8, am_yb9, am_yb10, am_yb11, am_yb12, am_yb13, am_yb14, am_yb15, am_yb16, am_yb17, am_yb18, am_yb19]
def am_cbs : List (List ByteArray) := [am_cb0, am_cb1, am_cb2, am_cb3, am_cb4, am_cb5, am_cb6, am_cb7, am_cb8, am_cb9, am_cb10, am_cb11, am_cb12, am_cb13, am_cb14, am_cb15, am_cb16, am_cb17, am_cb18, am_cb19]
def am_P (n : Nat) : am_M := am_nth (am_nth am_pbs (n / 16) []) (n % 16) (0, 0, 0, [])
def am_yN (n : Nat) : MethodName := am_nth (am_nth am_ybs (n / 16) []) (n % 16) ⟨"", "", ""⟩
def am_cN (n : Nat) : ByteArray := am_nth (am_nth am_cbs (n / 16) []) (n % 16) ⟨#[]⟩
def am_NM : Nat := 304
end
section
/-! ===== more room does no harm ===== -/
theorem am_do_lift {P : Nat → am_M} {d L d' L' ret pc nx a b : Nat} {i : Instr} {ls : List (Option Value)} {st : List Value} {h : am_H} {o : am_S ⊕ (Option Value) ⊕ (Nat × List Value × am_S)} (hd : d ≤ d') (hL : L ≤ L') (hs : am_do P d L ret i pc nx a b ls st h = some o) : am_do P d' L' ret i pc nx a b ls st h = some o := by
  have ble : ∀ {x y z : Nat}, Nat.ble x y = true → y ≤ z → Nat.ble x z = true := fun h1 h2 => Nat.ble_eq_true_of_le (Nat.le_trans (Nat.le_of_ble_eq_true h1) h2)
  cases i
  case invokespecial idx =>
    dsimp only [am_do] at hs ⊢
    cases ha : Nat.beq a 999 with
    | false => rw [ha] at hs; exact hs
    | true =>
      rw [ha, cond_true] at hs
      rw [cond_true]
      have hs0 := am_r1_inv hs; clear hs; obtain ⟨q, r, hst, hs⟩ := hs0
      subst hst
      have hs0 := am_bif_inv hs; clear hs; obtain ⟨hc, hs⟩ := hs0
      rw [Bool.and_eq_true] at hc
      show (bif Nat.ble 1 d' && Nat.ble (am_cat r + 12) L' then _ else none) = _
      rw [ble hc.1 hd, ble hc.2 hL]
      exact hs
  case invokestatic idx =>
    dsimp only [am_do] at hs ⊢
    cases ha : Nat.beq a 998 with
    | true =>
      rw [ha, cond_true] at hs
      rw [cond_true]
      split at hs
      · have hs0 := am_cA_inv hs; clear hs; obtain ⟨n0, f, hc0, hs⟩ := hs0
        have hs0 := am_cA_inv hs; clear hs; obtain ⟨n1, f1, hc1, hs⟩ := hs0
        split at hs
        · cases hs
        · rename_i hcd
          rw [hc0, hc1]
          show (if _ then none else _) = _
          rw [if_neg]
          · exact hs
          · intro z
            apply hcd
            rcases z with z | z | z | z | z | z | z | z | z
            · exact Or.inl z
            · exact Or.inr (Or.inl z)
            · exact Or.inr (Or.inr (Or.inl z))
            · exact Or.inr (Or.inr (Or.inr (Or.inl z)))
            · exact Or.inr (Or.inr (Or.inr (Or.inr (Or.inl z))))
            · exact Or.inr (Or.inr (Or.inr (Or.inr (Or.inr (Or.inl z)))))
            · exact Or.inr (Or.inr (Or.inr (Or.inr (Or.inr (Or.inr (Or.inl z))))))
            · exact Or.inr (Or.inr (Or.inr (Or.inr (Or.inr (Or.inr (Or.inr (Or.inl (by omega))))))))
            · exact Or.inr (Or.inr (Or.inr (Or.inr (Or.inr (Or.inr (Or.inr (Or.inr (by omega))))))))
      · cases hs
    | false =>
      rw [ha, cond_false] at hs
      rw [cond_false]
      cases hb : Nat.beq a 997 with
      | true =>
        rw [hb, cond_true] at hs
        rw [cond_true]
        have hs0 := am_ii_inv hs; clear hs; obtain ⟨x, y, r, hst, hs⟩ := hs0
        subst hst
        have hs0 := am_bif_inv hs; clear hs; obtain ⟨hc, hs⟩ := hs0
        rw [Bool.and_eq_true] at hc
        show (bif Nat.ble 1 d' && Nat.ble (am_cat r + 13) L' then _ else none) = _
        rw [ble hc.1 hd, ble hc.2 hL]
        exact hs
      | false =>
        rw [hb, cond_false] at hs
        rw [cond_false]
        cases hb2 : Nat.beq a 996 with
        | true =>
          rw [hb2, cond_true] at hs
          rw [cond_true]
          have hs0 := am_ii_inv hs; clear hs; obtain ⟨x, y, r, hst, hs⟩ := hs0
          subst hst
          have hs0 := am_bif_inv hs; clear hs; obtain ⟨hc, hs⟩ := hs0
          rw [Bool.and_eq_true] at hc
          show (bif Nat.ble 1 d' && Nat.ble (am_cat r + 13) L' then _ else none) = _
          rw [ble hc.1 hd, ble hc.2 hL]
          exact hs
        | false =>
          rw [hb2, cond_false] at hs
          rw [cond_false]
          cases hb3 : Nat.beq a 994 with
          | true =>
            rw [hb3, cond_true] at hs
            rw [cond_true]
            have hs0 := am_ii_inv hs; clear hs; obtain ⟨x, y, r, hst, hs⟩ := hs0
            subst hst
            split at hs
            · cases hs
            · rename_i hxy
              have hs0 := am_bif_inv hs; clear hs; obtain ⟨hc, hs⟩ := hs0
              simp only [Bool.and_eq_true] at hc
              show (if x < 0 ∨ ¬ x < y then none else bif Nat.ble 2 d' && Nat.ble (am_cat r) 8 && Nat.ble 60 L' then _ else none) = _
              rw [if_neg hxy, ble hc.1.1 hd, hc.1.2, ble hc.2 hL]
              exact hs
          | false => rw [hb3] at hs; exact hs
  all_goals exact hs
theorem am_run_lift {P : Nat → am_M} : ∀ (n d L M : Nat) (c : am_S) (x : Option Value × am_H) (d' L' : Nat), d ≤ d' → L ≤ L' → am_run P n d L M c = some x → am_run P n d' L' M c = some x := by
  intro n
  induction n with
  | zero => intro d L M c x d' L' _ _ h; simp [am_run] at h
  | succ n ih =>
    intro d L M c x d' L' hd hL h
    rw [am_run] at h ⊢
    cases hs : am_step P d L M c with
    | none => rw [hs] at h; simp at h
    | some o =>
      have hs' : am_step P d' L' M c = some o := by
        unfold am_step at hs ⊢
        cases hat : am_at (P M).2.2.2 c.1 with
        | none => rw [hat] at hs; cases hs
        | some q => rw [hat] at hs; exact am_do_lift hd hL hs
      rw [hs] at h
      rw [hs']
      match o, h with
      | .inl c', h => exact ih _ _ _ _ _ _ _ hd hL h
      | .inr (.inl r), h => exact h
      | .inr (.inr (y, vs, c')), h =>
        cases d with
        | zero => simp at h
        | succ d1 =>
          cases d' with
          | zero => omega
          | succ d2 =>
            dsimp only at h ⊢
            split at h
            · cases h
            · rename_i hc
              rw [if_neg (show ¬ (L' < am_lc P y ∨ (P y).2.1 < (am_ent0 vs).length) by omega)]
              cases hr : am_run P n d1 (L - am_lc P y) y (0, am_ent vs (P y).2.1, [], c'.2.2.2) with
              | none => rw [hr] at h; simp at h
              | some q =>
                obtain ⟨r, h1⟩ := q
                rw [hr] at h
                rw [ih _ _ _ _ _ d2 (L' - am_lc P y) (by omega) (by omega) hr]
                exact ih _ _ _ _ _ _ _ hd hL h
theorem AC.lift {P : Nat → am_M} {d L d' L' y : Nat} {vs : List Value} {h : am_H} {Q : Option Value → am_H → Prop} (k : AC P d L y vs h Q) (hd : d ≤ d') (hL : L ≤ L') : AC P d' L' y vs h Q := by
  obtain ⟨n, r, h1, e, q⟩ := k
  exact ⟨n, r, h1, am_run_lift _ _ _ _ _ _ _ _ hd hL e, q⟩
end
section
/-! ===== rows: an instruction of the abstract machine, goal first ===== -/
section AWR
variable {d L M pc nx a b : Nat} {ls ls' : List (Option Value)} {st : List Value} {h : am_H} {Q : Option Value → am_H → Prop}
/-- a plain instruction: 'refine aw rfl rfl ?_' -/
theorem aw {i : Instr} {pc' : Nat} {st' : List Value} {h' : am_H} (hf : am_at (am_P M).2.2.2 pc = some (i, nx, a, b)) (hs : am_do am_P d L (am_P M).2.2.1 i pc nx a b ls st h = some (.inl (pc', ls', st', h'))) (k : AW am_P d L M pc' ls' st' h' Q) : AW am_P d L M pc ls st h Q := by
  refine AW.step ?_ k
  unfold am_step
  rw [show ((pc, ls, st, h) : am_S).1 = pc from rfl, hf]
  exact hs
theorem aw_ret0 {i : Instr} {r : Option Value} (hf : am_at (am_P M).2.2.2 pc = some (i, nx, a, b)) (hs : am_do am_P d L (am_P M).2.2.1 i pc nx a b ls st h = some (.inr (.inl r))) (q : Q r h) : AW am_P d L M pc ls st h Q := by
  refine AW.ret (r := r) ?_ q
  unfold am_step
  rw [show ((pc, ls, st, h) : am_S).1 = pc from rfl, hf]
  exact hs
theorem aw_call0 {i : Instr} {y pc' d1 L1 : Nat} {vs : List Value} {st' : List Value} {Q1 : Option Value → am_H → Prop} (hf : am_at (am_P M).2.2.2 pc = some (i, nx, a, b)) (hs : am_do am_P (d + 1) L (am_P M).2.2.1 i pc nx a b ls st h = some (.inr (.inr (y, vs, pc', ls', st', h)))) (hd : d1 ≤ d) (hL : am_lc am_P y + L1 ≤ L) (hA : (am_ent0 vs).length ≤ (am_P y).2.1) (hc : AC am_P d1 L1 y vs h Q1)
    (k : ∀ r h1, Q1 r h1 → AW am_P (d + 1) L M pc' ls' (r.toList ++ st') h1 Q) : AW am_P (d + 1) L M pc ls st h Q := by
  refine AW.call (y := y) (vs := vs) (pc' := pc') (ls' := ls') (st' := st') (h' := h) ?_ (by omega) hA (hc.lift hd (by omega)) k
  unfold am_step
  rw [show ((pc, ls, st, h) : am_S).1 = pc from rfl, hf]
  exact hs
/-- stores: 'refine aw_ist (ls' := [_, _]) rfl rfl ?_' -/
theorem aw_ist {i : Instr} {x : Int32} {r : List Value} (hf : am_at (am_P M).2.2.2 pc = some (i, nx, a, b)) (hl : am_st1 ls a (.int x) = ls') (k : AW am_P d L M nx ls' r h Q) (hi : (∃ k, i = .istore k) ∨ ∃ k, i = .istore_n k := by first | exact Or.inl ⟨_, rfl⟩ | exact Or.inr ⟨_, rfl⟩) : AW am_P d L M pc ls (.int x :: r) h Q := by
  subst hl
  rcases hi with ⟨kx, rfl⟩ | ⟨kx, rfl⟩ <;> exact aw hf rfl k
theorem aw_ast {i : Instr} {x : Nat} {r : List Value} (hf : am_at (am_P M).2.2.2 pc = some (i, nx, a, b)) (hl : am_st1 ls a (.ref x) = ls') (k : AW am_P d L M nx ls' r h Q) (hi : (∃ k, i = .astore k) ∨ ∃ k, i = .astore_n k := by first | exact Or.inl ⟨_, rfl⟩ | exact Or.inr ⟨_, rfl⟩) : AW am_P d L M pc ls (.ref x :: r) h Q := by
  subst hl
  rcases hi with ⟨kx, rfl⟩ | ⟨kx, rfl⟩ <;> exact aw hf rfl k
theorem aw_lst {i : Instr} {x : Int64} {r : List Value} (hf : am_at (am_P M).2.2.2 pc = some (i, nx, a, b)) (hl : am_st2 ls a (.long x) = ls') (k : AW am_P d L M nx ls' r h Q) (hi : (∃ k, i = .lstore k) ∨ ∃ k, i = .lstore_n k := by first | exact Or.inl ⟨_, rfl⟩ | exact Or.inr ⟨_, rfl⟩) : AW am_P d L M pc ls (.long x :: r) h Q := by
  subst hl
  rcases hi with ⟨kx, rfl⟩ | ⟨kx, rfl⟩ <;> exact aw hf rfl k
theorem aw_inc {j : Nat} {n : Int} {x c : Int32} (hf : am_at (am_P M).2.2.2 pc = some (.iinc j n, nx, a, b)) (hg : am_get ls a = some (.int x)) (hc : Int32.ofInt n = c) (hl : am_st1 ls a (.int (x + c)) = ls') (k : AW am_P d L M nx ls' st h Q) : AW am_P d L M pc ls st h Q := by
  subst hl
  subst hc
  refine aw hf ?_ k
  show (match am_get ls a with
    | some (.int x) => (some (.inl (nx, am_st1 ls a (.int (x + Int32.ofInt n)), st, h)) : am_O)
    | _ => none) = _
  rw [hg]
/-- constants: 'refine aw_c (v := nI 8) rfl (by decide) ?_' -/
def am_cv : Instr → Option Int32
  | .iconst n => some (Int32.ofInt n)
  | .bipush n => some ((Int8.ofInt n).toInt32)
  | .sipush n => some ((Int16.ofInt n).toInt32)
  | _ => none
theorem aw_c {i : Instr} {v : Int32} (hf : am_at (am_P M).2.2.2 pc = some (i, nx, a, b)) (hv : am_cv i = some v) (k : AW am_P d L M nx ls (.int v :: st) h Q) : AW am_P d L M pc ls st h Q := by
  refine aw hf ?_ k
  cases i <;> first | (cases hv; done) | (cases hv; rfl)
/-- branches -/
theorem aw_if {c : ClassFile.Cond} {off : Int} {x : Int32} {r : List Value} (hf : am_at (am_P M).2.2.2 pc = some (.ifCond c off, nx, a, b)) (kt : am_cnd c x 0 = true → AW am_P d L M a ls r h Q) (kf : am_cnd c x 0 = false → AW am_P d L M nx ls r h Q) : AW am_P d L M pc ls (.int x :: r) h Q := by
  refine aw hf rfl ?_
  cases hc : am_cnd c x 0
  · exact kf hc
  · exact kt hc
theorem aw_ii {c : ClassFile.Cond} {off : Int} {x y : Int32} {r : List Value} (hf : am_at (am_P M).2.2.2 pc = some (.if_icmp c off, nx, a, b)) (kt : am_cnd c x y = true → AW am_P d L M a ls r h Q) (kf : am_cnd c x y = false → AW am_P d L M nx ls r h Q) : AW am_P d L M pc ls (.int y :: .int x :: r) h Q := by
  refine aw hf rfl ?_
  cases hc : am_cnd c x y
  · exact kf hc
  · exact kt hc
theorem aw_eq {off : Int} {x : Int32} {r : List Value} (hf : am_at (am_P M).2.2.2 pc = some (.ifCond .eq off, nx, a, b)) (kt : x = 0 → AW am_P d L M a ls r h Q) (kf : ¬ x = 0 → AW am_P d L M nx ls r h Q) : AW am_P d L M pc ls (.int x :: r) h Q := aw_if hf (fun z => kt (of_decide_eq_true z)) (fun z => kf (of_decide_eq_false z))
theorem aw_ne {off : Int} {x : Int32} {r : List Value} (hf : am_at (am_P M).2.2.2 pc = some (.ifCond .ne off, nx, a, b)) (kt : ¬ x = 0 → AW am_P d L M a ls r h Q) (kf : x = 0 → AW am_P d L M nx ls r h Q) : AW am_P d L M pc ls (.int x :: r) h Q := aw_if hf (fun z => kt (of_decide_eq_true z)) (fun z => kf (Decidable.of_not_not (of_decide_eq_false z)))
theorem aw_lt {off : Int} {x : Int32} {r : List Value} (hf : am_at (am_P M).2.2.2 pc = some (.ifCond .lt off, nx, a, b)) (kt : x < 0 → AW am_P d L M a ls r h Q) (kf : ¬ x < 0 → AW am_P d L M nx ls r h Q) : AW am_P d L M pc ls (.int x :: r) h Q := aw_if hf (fun z => kt (of_decide_eq_true z)) (fun z => kf (of_decide_eq_false z))
theorem aw_ge {off : Int} {x : Int32} {r : List Value} (hf : am_at (am_P M).2.2.2 pc = some (.ifCond .ge off, nx, a, b)) (kt : 0 ≤ x → AW am_P d L M a ls r h Q) (kf : ¬ 0 ≤ x → AW am_P d L M nx ls r h Q) : AW am_P d L M pc ls (.int x :: r) h Q := aw_if hf (fun z => kt (of_decide_eq_true z)) (fun z => kf (of_decide_eq_false z))
theorem aw_gt {off : Int} {x : Int32} {r : List Value} (hf : am_at (am_P M).2.2.2 pc = some (.ifCond .gt off, nx, a, b)) (kt : 0 < x → AW am_P d L M a ls r h Q) (kf : ¬ 0 < x → AW am_P d L M nx ls r h Q) : AW am_P d L M pc ls (.int x :: r) h Q := aw_if hf (fun z => kt (of_decide_eq_true z)) (fun z => kf (of_decide_eq_false z))
theorem aw_le {off : Int} {x : Int32} {r : List Value} (hf : am_at (am_P M).2.2.2 pc = some (.ifCond .le off, nx, a, b)) (kt : x ≤ 0 → AW am_P d L M a ls r h Q) (kf : ¬ x ≤ 0 → AW am_P d L M nx ls r h Q) : AW am_P d L M pc ls (.int x :: r) h Q := aw_if hf (fun z => kt (of_decide_eq_true z)) (fun z => kf (of_decide_eq_false z))
theorem aw_ieq {off : Int} {x y : Int32} {r : List Value} (hf : am_at (am_P M).2.2.2 pc = some (.if_icmp .eq off, nx, a, b)) (kt : x = y → AW am_P d L M a ls r h Q) (kf : ¬ x = y → AW am_P d L M nx ls r h Q) : AW am_P d L M pc ls (.int y :: .int x :: r) h Q := aw_ii hf (fun z => kt (of_decide_eq_true z)) (fun z => kf (of_decide_eq_false z))
theorem aw_ine {off : Int} {x y : Int32} {r : List Value} (hf : am_at (am_P M).2.2.2 pc = some (.if_icmp .ne off, nx, a, b)) (kt : ¬ x = y → AW am_P d L M a ls r h Q) (kf : x = y → AW am_P d L M nx ls r h Q) : AW am_P d L M pc ls (.int y :: .int x :: r) h Q := aw_ii hf (fun z => kt (of_decide_eq_true z)) (fun z => kf (Decidable.of_not_not (of_decide_eq_false z)))
theorem aw_ilt {off : Int} {x y : Int32} {r : List Value} (hf : am_at (am_P M).2.2.2 pc = some (.if_icmp .lt off, nx, a, b)) (kt : x < y → AW am_P d L M a ls r h Q) (kf : ¬ x < y → AW am_P d L M nx ls r h Q) : AW am_P d L M pc ls (.int y :: .int x :: r) h Q := aw_ii hf (fun z => kt (of_decide_eq_true z)) (fun z => kf (of_decide_eq_false z))
theorem aw_ige {off : Int} {x y : Int32} {r : List Value} (hf : am_at (am_P M).2.2.2 pc = some (.if_icmp .ge off, nx, a, b)) (kt : y ≤ x → AW am_P d L M a ls r h Q) (kf : ¬ y ≤ x → AW am_P d L M nx ls r h Q) : AW am_P d L M pc ls (.int y :: .int x :: r) h Q := aw_ii hf (fun z => kt (of_decide_eq_true z)) (fun z => kf (of_decide_eq_false z))
theorem aw_igt {off : Int} {x y : Int32} {r : List Value} (hf : am_at (am_P M).2.2.2 pc = some (.if_icmp .gt off, nx, a, b)) (kt : y < x → AW am_P d L M a ls r h Q) (kf : ¬ y < x → AW am_P d L M nx ls r h Q) : AW am_P d L M pc ls (.int y :: .int x :: r) h Q := aw_ii hf (fun z => kt (of_decide_eq_true z)) (fun z => kf (of_decide_eq_false z))
theorem aw_ile {off : Int} {x y : Int32} {r : List Value} (hf : am_at (am_P M).2.2.2 pc = some (.if_icmp .le off, nx, a, b)) (kt : x ≤ y → AW am_P d L M a ls r h Q) (kf : ¬ x ≤ y → AW am_P d L M nx ls r h Q) : AW am_P d L M pc ls (.int y :: .int x :: r) h Q := aw_ii hf (fun z => kt (of_decide_eq_true z)) (fun z => kf (of_decide_eq_false z))
/-- the heap -/
theorem aw_getf {idx q : Nat} {fs : List Value} {v : Value} {r : List Value} (hf : am_at (am_P M).2.2.2 pc = some (.getfield idx, nx, a, b)) (hc : h.2.2 q = .inl (a, fs)) (hv : fs[b]? = some v) (k : AW am_P d L M nx ls (v :: r) h Q) : AW am_P d L M pc ls (.ref q :: r) h Q := by
  refine aw hf ?_ k
  show am_cO (h.2.2 q) (fun ci fs => bif Nat.beq ci a then (match fs[b]? with
    | some v => some (.inl (nx, ls, v :: r, h))
    | none => none) else none) = _
  rw [hc]
  show (bif Nat.beq a a then (match fs[b]? with
    | some v => some (.inl (nx, ls, v :: r, h))
    | none => none) else (none : am_O)) = _
  rw [hv, Nat.beq_refl]
  rfl
theorem aw_putf {idx q : Nat} {fs fs' : List Value} {v : Value} {r : List Value} (hf : am_at (am_P M).2.2.2 pc = some (.putfield idx, nx, a, b)) (hc : h.2.2 q = .inl (a, fs)) (hl : Nat.blt (b / 8) fs.length = true) (hft : am_fit (b % 4) v = true) (hs : fs.set (b / 8) v = fs') (h8 : 8 ≤ q) (k : AW am_P d L M nx ls r (am_up h q (.inl (a, fs'))) Q) : AW am_P d L M pc ls (v :: .ref q :: r) h Q := by
  subst hs
  refine aw hf ?_ k
  show am_cO (h.2.2 q) (fun ci fs => bif Nat.beq ci a && Nat.blt (b / 8) fs.length && am_fit (b % 4) v && Nat.ble 8 q then some (.inl (nx, ls, r, am_up h q (.inl (ci, fs.set (b / 8) v)))) else none) = _
  rw [hc]
  show (bif Nat.beq a a && Nat.blt (b / 8) fs.length && am_fit (b % 4) v && Nat.ble 8 q then some (.inl (nx, ls, r, am_up h q (.inl (a, fs.set (b / 8) v)))) else (none : am_O)) = _
  rw [hl, hft, Nat.beq_refl, Nat.ble_eq_true_of_le h8]
  rfl
theorem aw_ix {j : Int32} {n k : Nat} (hj : j = nI k) (hk : k < n) (hn : n < 2147483648) (o : am_O) : am_ix j n o = o ∧ j.toNatClampNeg = k := by
  subst hj
  have h1 : (nI k).toNatClampNeg = k := nI_clamp (by omega)
  have h2 : ¬ nI k < 0 := nI_pos (by omega)
  unfold am_ix
  rw [if_neg (fun z => z.elim h2 (fun z => by rw [h1] at z; omega))]
  exact ⟨rfl, h1⟩
theorem aw_iald {q k n : Nat} {j : Int32} {f : Nat → Int32} {r : List Value} (hf : am_at (am_P M).2.2.2 pc = some (.iaload, nx, a, b)) (hc : h.2.2 q = .inr (0, n, .inl f)) (hj : j = nI k) (hk : k < n) (hn : n < 2147483648) (kk : AW am_P d L M nx ls (.int (f k) :: r) h Q) : AW am_P d L M pc ls (.int j :: .ref q :: r) h Q := by
  refine aw hf ?_ kk
  show am_cA (h.2.2 q) 0 (fun n f => am_ix j n (some (.inl (nx, ls, .int (f j.toNatClampNeg) :: r, h)))) = _
  rw [hc]
  show am_ix j n (some (.inl (nx, ls, .int (f j.toNatClampNeg) :: r, h))) = _
  obtain ⟨e1, e2⟩ := aw_ix hj hk hn (some (.inl (nx, ls, .int (f j.toNatClampNeg) :: r, h)))
  rw [e1, e2]
theorem aw_bald {q k n : Nat} {j : Int32} {f : Nat → Int32} {r : List Value} (hf : am_at (am_P M).2.2.2 pc = some (.baload, nx, a, b)) (hc : h.2.2 q = .inr (a, n, .inl f)) (hj : j = nI k) (hk : k < n) (hn : n < 2147483648) (kk : AW am_P d L M nx ls (.int (f k) :: r) h Q) : AW am_P d L M pc ls (.int j :: .ref q :: r) h Q := by
  refine aw hf ?_ kk
  show am_cA (h.2.2 q) a (fun n f => am_ix j n (some (.inl (nx, ls, .int (f j.toNatClampNeg) :: r, h)))) = _
  rw [hc]
  show (bif Nat.beq a a then am_ix j n (some (.inl (nx, ls, .int (f j.toNatClampNeg) :: r, h))) else none) = _
  obtain ⟨e1, e2⟩ := aw_ix hj hk hn (some (.inl (nx, ls, .int (f j.toNatClampNeg) :: r, h)))
  rw [e1, e2, Nat.beq_refl]
  rfl
theorem aw_lald {q k n : Nat} {j : Int32} {f : Nat → Int64} {r : List Value} (hf : am_at (am_P M).2.2.2 pc = some (.laload, nx, a, b)) (hc : h.2.2 q = .inr (3, n, .inr (.inl f))) (hj : j = nI k) (hk : k < n) (hn : n < 2147483648) (kk : AW am_P d L M nx ls (.long (f k) :: r) h Q) : AW am_P d L M pc ls (.int j :: .ref q :: r) h Q := by
  refine aw hf ?_ kk
  show am_cL (h.2.2 q) (fun n f => am_ix j n (some (.inl (nx, ls, .long (f j.toNatClampNeg) :: r, h)))) = _
  rw [hc]
  show am_ix j n (some (.inl (nx, ls, .long (f j.toNatClampNeg) :: r, h))) = _
  obtain ⟨e1, e2⟩ := aw_ix hj hk hn (some (.inl (nx, ls, .long (f j.toNatClampNeg) :: r, h)))
  rw [e1, e2]
theorem aw_aald {q k n y : Nat} {j : Int32} {f : Nat → Option Nat} {r : List Value} (hf : am_at (am_P M).2.2.2 pc = some (.aaload, nx, a, b)) (hc : h.2.2 q = .inr (a, n, .inr (.inr f))) (hj : j = nI k) (hk : k < n) (hn : n < 2147483648) (hy : f k = some y) (kk : AW am_P d L M nx ls (.ref y :: r) h Q) : AW am_P d L M pc ls (.int j :: .ref q :: r) h Q := by
  refine aw hf ?_ kk
  show am_cQ (h.2.2 q) (fun t n f => bif Nat.beq t a then am_ix j n (some (.inl (nx, ls, va_rf (f j.toNatClampNeg) :: r, h))) else none) = _
  rw [hc]
  show (bif Nat.beq a a then am_ix j n (some (.inl (nx, ls, va_rf (f j.toNatClampNeg) :: r, h))) else none) = _
  obtain ⟨e1, e2⟩ := aw_ix hj hk hn (some (.inl (nx, ls, va_rf (f j.toNatClampNeg) :: r, h)))
  rw [e1, e2, Nat.beq_refl, hy]
  rfl
theorem aw_aaldN {q k n : Nat} {j : Int32} {f : Nat → Option Nat} {r : List Value} (hf : am_at (am_P M).2.2.2 pc = some (.aaload, nx, a, b)) (hc : h.2.2 q = .inr (a, n, .inr (.inr f))) (hj : j = nI k) (hk : k < n) (hn : n < 2147483648) (hy : f k = none) (kk : AW am_P d L M nx ls (.null :: r) h Q) : AW am_P d L M pc ls (.int j :: .ref q :: r) h Q := by
  refine aw hf ?_ kk
  show am_cQ (h.2.2 q) (fun t n f => bif Nat.beq t a then am_ix j n (some (.inl (nx, ls, va_rf (f j.toNatClampNeg) :: r, h))) else none) = _
  rw [hc]
  show (bif Nat.beq a a then am_ix j n (some (.inl (nx, ls, va_rf (f j.toNatClampNeg) :: r, h))) else none) = _
  obtain ⟨e1, e2⟩ := aw_ix hj hk hn (some (.inl (nx, ls, va_rf (f j.toNatClampNeg) :: r, h)))
  rw [e1, e2, Nat.beq_refl, hy]
  rfl
theorem aw_iast {q k n : Nat} {j x : Int32} {f : Nat → Int32} {r : List Value} (hf : am_at (am_P M).2.2.2 pc = some (.iastore, nx, a, b)) (hc : h.2.2 q = .inr (0, n, .inl f)) (hj : j = nI k) (hk : k < n) (hn : n < 2147483648) (h8 : 8 ≤ q) (kk : AW am_P d L M nx ls r (am_up h q (.inr (0, n, .inl (upd f k x)))) Q) : AW am_P d L M pc ls (.int x :: .int j :: .ref q :: r) h Q := by
  refine aw hf ?_ kk
  show am_cA (h.2.2 q) 0 (fun n f => am_ix j n (if q < 8 then none else some (.inl (nx, ls, r, am_up h q (.inr (0, n, .inl (upd f j.toNatClampNeg x))))))) = _
  simp only [if_neg (show ¬ q < 8 by omega)]
  rw [hc]
  show am_ix j n (some (.inl (nx, ls, r, am_up h q (.inr (0, n, .inl (upd f j.toNatClampNeg x)))))) = _
  obtain ⟨e1, e2⟩ := aw_ix hj hk hn (some (.inl (nx, ls, r, am_up h q (.inr (0, n, .inl (upd f j.toNatClampNeg x))))))
  rw [e1, e2]
theorem aw_bast {q k n : Nat} {j x : Int32} {f : Nat → Int32} {r : List Value} (hf : am_at (am_P M).2.2.2 pc = some (.bastore, nx, a, b)) (hc : h.2.2 q = .inr (a, n, .inl f)) (hj : j = nI k) (hk : k < n) (hn : n < 2147483648) (h8 : 8 ≤ q) (kk : AW am_P d L M nx ls r (am_up h q (.inr (a, n, .inl (upd f k (vp_nar (bif Nat.beq a 1 then .byte else .boolean) x))))) Q) : AW am_P d L M pc ls (.int x :: .int j :: .ref q :: r) h Q := by
  refine aw hf ?_ kk
  show am_cA (h.2.2 q) a (fun n f => am_ix j n (if q < 8 then none else some (.inl (nx, ls, r, am_up h q (.inr (a, n, .inl (upd f j.toNatClampNeg (vp_nar (bif Nat.beq a 1 then .byte else .boolean) x)))))))) = _
  simp only [if_neg (show ¬ q < 8 by omega)]
  rw [hc]
  show (bif Nat.beq a a then am_ix j n (some (.inl (nx, ls, r, am_up h q (.inr (a, n, .inl (upd f j.toNatClampNeg (vp_nar (bif Nat.beq a 1 then .byte else .boolean) x))))))) else none) = _
  obtain ⟨e1, e2⟩ := aw_ix hj hk hn (some (.inl (nx, ls, r, am_up h q (.inr (a, n, .inl (upd f j.toNatClampNeg (vp_nar (bif Nat.beq a 1 then .byte else .boolean) x)))))))
  rw [e1, e2, Nat.beq_refl]
  rfl
theorem aw_last {q k n : Nat} {j : Int32} {x : Int64} {f : Nat → Int64} {r : List Value} (hf : am_at (am_P M).2.2.2 pc = some (.lastore, nx, a, b)) (hc : h.2.2 q = .inr (3, n, .inr (.inl f))) (hj : j = nI k) (hk : k < n) (hn : n < 2147483648) (h8 : 8 ≤ q) (kk : AW am_P d L M nx ls r (am_up h q (.inr (3, n, .inr (.inl (vp_updL f k x))))) Q) : AW am_P d L M pc ls (.long x :: .int j :: .ref q :: r) h Q := by
  refine aw hf ?_ kk
  show am_cL (h.2.2 q) (fun n f => am_ix j n (if q < 8 then none else some (.inl (nx, ls, r, am_up h q (.inr (3, n, .inr (.inl (vp_updL f j.toNatClampNeg x)))))))) = _
  simp only [if_neg (show ¬ q < 8 by omega)]
  rw [hc]
  show am_ix j n (some (.inl (nx, ls, r, am_up h q (.inr (3, n, .inr (.inl (vp_updL f j.toNatClampNeg x))))))) = _
  obtain ⟨e1, e2⟩ := aw_ix hj hk hn (some (.inl (nx, ls, r, am_up h q (.inr (3, n, .inr (.inl (vp_updL f j.toNatClampNeg x)))))))
  rw [e1, e2]
theorem aw_aast {q k n y t : Nat} {j : Int32} {f : Nat → Option Nat} {r : List Value} (hf : am_at (am_P M).2.2.2 pc = some (.aastore, nx, a, b)) (hc : h.2.2 q = .inr (t, n, .inr (.inr f))) (hj : j = nI k) (hk : k < n) (hn : n < 2147483648) (h8 : 8 ≤ q) (hy8 : 8 ≤ y) (hy : y < h.1) (he : am_elt t (h.2.2 y) = true) (kk : AW am_P d L M nx ls r (am_up h q (.inr (t, n, .inr (.inr (va_up f k (some y)))))) Q) : AW am_P d L M pc ls (.ref y :: .int j :: .ref q :: r) h Q := by
  refine aw hf ?_ kk
  show am_cQ (h.2.2 q) (fun t n f => am_ix j n (if q < 8 ∨ y < 8 ∨ h.1 ≤ y then none else bif am_elt t (h.2.2 y) then some (.inl (nx, ls, r, am_up h q (.inr (t, n, .inr (.inr (va_up f j.toNatClampNeg (some y))))))) else none)) = _
  simp only [if_neg (show ¬ (q < 8 ∨ y < 8 ∨ h.1 ≤ y) by omega)]
  rw [hc]
  show am_ix j n (bif am_elt t (h.2.2 y) then some (.inl (nx, ls, r, am_up h q (.inr (t, n, .inr (.inr (va_up f j.toNatClampNeg (some y))))))) else none) = _
  rw [he]
  show am_ix j n (some (.inl (nx, ls, r, am_up h q (.inr (t, n, .inr (.inr (va_up f j.toNatClampNeg (some y)))))))) = _
  obtain ⟨e1, e2⟩ := aw_ix hj hk hn (some (.inl (nx, ls, r, am_up h q (.inr (t, n, .inr (.inr (va_up f j.toNatClampNeg (some y))))))))
  rw [e1, e2]
theorem aw_alen {q n t : Nat} {c : (Nat → Int32) ⊕ (Nat → Int64) ⊕ (Nat → Option Nat)} {r : List Value} (hf : am_at (am_P M).2.2.2 pc = some (.arraylength, nx, a, b)) (hc : h.2.2 q = .inr (t, n, c)) (ht : Nat.blt t 6 = true) (kk : AW am_P d L M nx ls (.int (nI n) :: r) h Q) : AW am_P d L M pc ls (.ref q :: r) h Q := by
  refine aw hf ?_ kk
  show (match h.2.2 q with
    | Sum.inr (t, n, _) => (bif Nat.blt t 6 then some (.inl (nx, ls, .int (Int32.ofNat n) :: r, h)) else none : am_O)
    | _ => none) = _
  rw [hc]
  show (bif Nat.blt t 6 then some (.inl (nx, ls, .int (Int32.ofNat n) :: r, h)) else (none : am_O)) = _
  rw [ht]
  rfl
/-- divisions by what isn't 0 -/
theorem aw_idiv {x y : Int32} {r : List Value} (hf : am_at (am_P M).2.2.2 pc = some (.idiv, nx, a, b)) (hy : ¬ y = 0) (kk : AW am_P d L M nx ls (.int (x / y) :: r) h Q) : AW am_P d L M pc ls (.int y :: .int x :: r) h Q := by
  refine aw hf ?_ kk
  show (if y = 0 then none else some (.inl (nx, ls, .int (x / y) :: r, h)) : am_O) = _
  rw [if_neg hy]
theorem aw_irem {x y : Int32} {r : List Value} (hf : am_at (am_P M).2.2.2 pc = some (.irem, nx, a, b)) (hy : ¬ y = 0) (kk : AW am_P d L M nx ls (.int (x - x / y * y) :: r) h Q) : AW am_P d L M pc ls (.int y :: .int x :: r) h Q := by
  refine aw hf ?_ kk
  show (if y = 0 then none else some (.inl (nx, ls, .int (x - x / y * y) :: r, h)) : am_O) = _
  rw [if_neg hy]
theorem aw_ldiv {x y : Int64} {r : List Value} (hf : am_at (am_P M).2.2.2 pc = some (.ldiv, nx, a, b)) (hy : ¬ y = 0) (kk : AW am_P d L M nx ls (.long (x / y) :: r) h Q) : AW am_P d L M pc ls (.long y :: .long x :: r) h Q := by
  refine aw hf ?_ kk
  show (if y = 0 then none else some (.inl (nx, ls, .long (x / y) :: r, h)) : am_O) = _
  rw [if_neg hy]
theorem aw_lrem {x y : Int64} {r : List Value} (hf : am_at (am_P M).2.2.2 pc = some (.lrem, nx, a, b)) (hy : ¬ y = 0) (kk : AW am_P d L M nx ls (.long (x - x / y * y) :: r) h Q) : AW am_P d L M pc ls (.long y :: .long x :: r) h Q := by
  refine aw hf ?_ kk
  show (if y = 0 then none else some (.inl (nx, ls, .long (x - x / y * y) :: r, h)) : am_O) = _
  rw [if_neg hy]
/-- ends -/
theorem aw_iret {x : Int32} (hf : am_at (am_P M).2.2.2 pc = some (.ireturn, nx, a, b)) (hr : am_rt (am_P M).2.2.1 x = true) (q : Q (some (.int x)) h) : AW am_P d L M pc ls [.int x] h Q := by
  refine aw_ret0 hf ?_ q
  show (bif am_rt (am_P M).2.2.1 x then some (.inr (.inl (some (.int x)))) else (none : am_O)) = _
  rw [hr]
  rfl
theorem aw_vret (hf : am_at (am_P M).2.2.2 pc = some (.return_, nx, a, b)) (hr : Nat.beq (am_P M).2.2.1 0 = true) (q : Q none h) : AW am_P d L M pc ls [] h Q := by
  refine aw_ret0 hf ?_ q
  show (bif Nat.beq (am_P M).2.2.1 0 then some (.inr (.inl none)) else (none : am_O)) = _
  rw [hr]
  rfl
theorem aw_lret {x : Int64} (hf : am_at (am_P M).2.2.2 pc = some (.lreturn, nx, a, b)) (hr : Nat.beq (am_P M).2.2.1 4 = true) (q : Q (some (.long x)) h) : AW am_P d L M pc ls [.long x] h Q := by
  refine aw_ret0 hf ?_ q
  show (bif Nat.beq (am_P M).2.2.1 4 then some (.inr (.inl (some (.long x)))) else (none : am_O)) = _
  rw [hr]
  rfl
/-- calls: the goal behind the call is the callee's Q -/
theorem aw_cs {i : Instr} {y pc' d1 L1 : Nat} {vs : List Value} {st' : List Value} (hf : am_at (am_P M).2.2.2 pc = some (i, nx, a, b)) (hs : am_do am_P (d + 1) L (am_P M).2.2.1 i pc nx a b ls st h = some (.inr (.inr (y, vs, pc', ls', st', h)))) (hd : d1 ≤ d) (hL : am_lc am_P y + L1 ≤ L) (hA : (am_ent0 vs).length ≤ (am_P y).2.1) (hc : AC am_P d1 L1 y vs h (fun r h1 => AW am_P (d + 1) L M pc' ls' (r.toList ++ st') h1 Q)) : AW am_P (d + 1) L M pc ls st h Q :=
  aw_call0 hf hs hd hL hA hc (fun _ _ k => k)
theorem aw_cv {idx q d1 L1 ci : Nat} {vs : List Value} {fs : List Value} {st' : List Value} (hf : am_at (am_P M).2.2.2 pc = some (.invokevirtual idx, nx, a, b)) (ht : am_take (b + 1) [] st = some (.ref q :: vs, st')) (hq : h.2.2 q = .inl (ci, fs)) (hci : Nat.beq ci (am_P a).1 = true) (h8 : Nat.ble (am_cat st') 8 = true) (hd : d1 ≤ d) (hL : am_lc am_P a + L1 ≤ L) (hA : (am_ent0 (.ref q :: vs)).length ≤ (am_P a).2.1) (hc : AC am_P d1 L1 a (.ref q :: vs) h (fun r h1 => AW am_P (d + 1) L M nx ls (r.toList ++ st') h1 Q)) : AW am_P (d + 1) L M pc ls st h Q := by
  refine aw_cs hf ?_ hd hL hA hc
  show (match am_take (b + 1) [] st with
    | some (.ref p :: vs, r) => am_cO (h.2.2 p) fun ci _ => bif Nat.beq ci (am_P a).1 && Nat.ble (am_cat r) 8 then some (.inr (.inr (a, .ref p :: vs, nx, ls, r, h))) else none
    | _ => (none : am_O)) = _
  rw [ht]
  show am_cO (h.2.2 q) (fun ci _ => bif Nat.beq ci (am_P a).1 && Nat.ble (am_cat st') 8 then some (.inr (.inr (a, .ref q :: vs, nx, ls, st', h))) else none) = _
  rw [hq]
  show (bif Nat.beq ci (am_P a).1 && Nat.ble (am_cat st') 8 then some (.inr (.inr (a, .ref q :: vs, nx, ls, st', h))) else none : am_O) = _
  rw [hci, h8]
  rfl
/-- a method from its start -/
theorem AC.of {y : Nat} {vs : List Value} (he : am_ent vs (am_P y).2.1 = ls) (k : AW am_P d L y 0 ls [] h Q) : AC am_P d L y vs h Q := by
  unfold AC
  rw [he]
  exact k
/-- the heap behind a write -/
theorem hg_eq {q : Nat} {c : am_C} : (am_up h q c).2.2 q = c := by simp [am_up, va_up]
theorem hg_ne {q p : Nat} {c x : am_C} (hn : p ≠ q) (hx : h.2.2 p = x) : (am_up h q c).2.2 p = x := by
  simp only [am_up, va_up, if_neg hn]
  exact hx
end AWR
end
section
/-! ===== numbers ===== -/
theorem n_1 : ¬ nI 1 = 0 := by decide
theorem n_neg (n : Nat) (h : n < 2147483648) : ¬ nI n < 0 := nI_pos h
theorem n_nle {a b : Nat} (h : a < b) (hb : b < 2147483648) : ¬ nI b ≤ nI a := nI_ge h hb
theorem n_m1 {n : Nat} (h : n < 2147483648) : ¬ nI n = -1 := by
  intro z
  have h1 := congrArg Int32.toInt z
  rw [nI_toInt h] at h1
  have h2 : (-1 : Int32).toInt = -1 := by decide
  omega
def n_held (v m : Int32) : Int32 := if -m < (if v < m then v else m) then (if v < m then v else m) else -m
/-- SIXES lies at place 1 -/
def am_six (h : am_H) : Prop := h.2.2 1 = .inr (0, 11, .inl (fun j => am_sl.getD j 0))
theorem am_sl_at : ∀ n, n ≤ 10 → am_sl.getD n 0 = nI (6 ^ n) := by
  intro n hn
  have : ∀ k : Fin 11, am_sl.getD k.val 0 = nI (6 ^ k.val) := by decide
  exact this ⟨n, by omega⟩
/-! ===== StoneHome: the static helpers ===== -/
theorem c_X10_lieOf {h : am_H} {Q : Option Value → am_H → Prop} {s f : Nat} (q : Q (some (.int (nI (s * 3 + f)))) h) : AC am_P 0 0 131 [.int (nI s), .int (nI f)] h Q := by
  refine AC.of (ls := [_, _]) rfl ?_
  refine aw rfl rfl ?_
  refine aw_c (v := nI 3) rfl (by decide) ?_
  refine aw rfl rfl ?_
  refine aw rfl rfl ?_
  refine aw rfl rfl ?_
  exact aw_iret rfl rfl (by rw [pk_mul, nI_add]; exact q)
theorem c_X10_squareOf {h : am_H} {Q : Option Value → am_H → Prop} {a c : Nat} (q : Q (some (.int (nI (c * 8 + a)))) h) : AC am_P 0 0 130 [.int (nI a), .int (nI c)] h Q := by
  refine AC.of (ls := [_, _]) rfl ?_
  refine aw rfl rfl ?_
  refine aw_c (v := nI 8) rfl (by decide) ?_
  refine aw rfl rfl ?_
  refine aw rfl rfl ?_
  refine aw rfl rfl ?_
  exact aw_iret rfl rfl (by rw [pk_mul, nI_add]; exact q)
theorem c_X10_alongOf {h : am_H} {Q : Option Value → am_H → Prop} {s : Nat} (hs : s < 2147483648) (q : Q (some (.int (nI (s % 8)))) h) : AC am_P 0 0 138 [.int (nI s)] h Q := by
  refine AC.of (ls := [_]) rfl ?_
  refine aw rfl rfl ?_
  refine aw_c (v := nI 8) rfl (by decide) ?_
  refine aw_irem rfl (by decide) ?_
  exact aw_iret rfl rfl (by rw [pk_rem hs (by decide) (by decide)]; exact q)
theorem c_X10_acrossOf {h : am_H} {Q : Option Value → am_H → Prop} {s : Nat} (hs : s < 2147483648) (q : Q (some (.int (nI (s / 8)))) h) : AC am_P 0 0 139 [.int (nI s)] h Q := by
  refine AC.of (ls := [_]) rfl ?_
  refine aw rfl rfl ?_
  refine aw_c (v := nI 8) rfl (by decide) ?_
  refine aw_idiv rfl (by decide) ?_
  exact aw_iret rfl rfl (by rw [pk_div hs (by decide) (by decide)]; exact q)
theorem c_X10_isSpan {h : am_H} {Q : Option Value → am_H → Prop} {x : Int32} (q1 : ∀ n : Nat, x = nI n → n ≤ 10 → Q (some (.int (nI 1))) h) (q0 : (x < 0 ∨ nI 10 < x) → Q (some (.int (nI 0))) h) : AC am_P 0 0 154 [.int x] h Q := by
  refine AC.of (ls := [_]) rfl ?_
  refine aw rfl rfl ?_
  refine aw_lt rfl (fun c1 => ?_) (fun c1 => ?_)
  · refine aw_c (v := nI 0) rfl (by decide) ?_
    exact aw_iret rfl rfl (q0 (Or.inl c1))
  · refine aw rfl rfl ?_
    refine aw_c (v := nI 10) rfl (by decide) ?_
    refine aw_igt rfl (fun c7 => ?_) (fun c7 => ?_)
    · refine aw_c (v := nI 0) rfl (by decide) ?_
      exact aw_iret rfl rfl (q0 (Or.inr c7))
    · refine aw_c (v := nI 1) rfl (by decide) ?_
      refine aw rfl rfl ?_
      exact aw_iret rfl rfl (by obtain ⟨j, hj, e⟩ := nI_of2 (M := nI 10) (n := 10) rfl c1 (Int32.not_lt.mp c7); exact q1 j e hj)
theorem c_X10_held {h : am_H} {Q : Option Value → am_H → Prop} {v m : Int32} (q : Q (some (.int (n_held v m))) h) : AC am_P 1 19 145 [.int v, .int m] h Q := by
  refine AC.of (ls := [_, _]) rfl ?_
  refine aw rfl rfl ?_
  refine aw rfl rfl ?_
  refine aw rfl rfl ?_
  refine aw rfl rfl ?_
  refine aw rfl rfl ?_
  refine aw rfl rfl ?_
  exact aw_iret rfl rfl q
theorem c_X10_sixesOf {h : am_H} {Q : Option Value → am_H → Prop} {n : Nat} (h6 : am_six h) (hn : n ≤ 10) (q : Q (some (.int (nI (6 ^ n)))) h) : AC am_P 0 0 156 [.int (nI n)] h Q := by
  refine AC.of (ls := [_]) rfl ?_
  have h6 := h6
  unfold am_six at h6
  refine aw rfl rfl ?_
  refine aw_lt rfl (fun c1 => absurd c1 (n_neg n (by omega))) (fun c1 => ?_)
  refine aw rfl rfl ?_
  refine aw rfl rfl ?_
  refine aw_alen rfl (by repeat first | assumption | exact hg_eq | refine hg_ne (by first | assumption | omega) ?_) rfl ?_
  refine aw_ige rfl (fun c9 => absurd c9 (n_nle (by omega) (by decide))) (fun c9 => ?_)
  refine aw rfl rfl ?_
  refine aw rfl rfl ?_
  refine aw_iald (k := n) rfl (by repeat first | assumption | exact hg_eq | refine hg_ne (by first | assumption | omega) ?_) rfl (by omega) (by decide) ?_
  refine aw rfl rfl ?_
  exact aw_iret rfl rfl (by rw [am_sl_at n hn]; exact q)
end
section
/-! ===== heaps ===== -/
theorem am_up_up {h : am_H} {a : Nat} {c d : am_C} : am_up (am_up h a c) a d = am_up h a d := by
  simp only [am_up]
  congr 2
  funext j
  by_cases e : j = a
  · simp [va_up, e]
  · simp [va_up, e]
abbrev am_ints (n : Nat) (f : Nat → Int32) : am_C := .inr (0, n, .inl f)
/-- a switch: its number z is known *-/
def am_tg (a : Nat) (lo hi : Int) (offs : Array Int) (pc : Nat) (z : Int) : Option Nat := if z < lo ∨ hi < z then some a else match offs[(z - lo).toNat]? with
  | some off => if (pc : Int) + off < 0 then none else some ((pc : Int) + off).toNat
  | none => none
theorem aw_ts {d L M pc nx a b tgt : Nat} {ls : List (Option Value)} {h : am_H} {Q : Option Value → am_H → Prop} {dflt lo hi z : Int} {offs : Array Int} {x : Int32} {r : List Value} (hf : am_at (am_P M).2.2.2 pc = some (.tableswitch dflt lo hi offs, nx, a, b)) (hz : x.toInt = z) (ht : am_tg a lo hi offs pc z = some tgt) (k : AW am_P d L M tgt ls r h Q) : AW am_P d L M pc ls (.int x :: r) h Q := by
  subst hz
  refine aw hf ?_ k
  show (if x.toInt < lo ∨ hi < x.toInt then some (.inl (a, ls, r, h)) else match offs[(x.toInt - lo).toNat]? with
      | some off => if (pc : Int) + off < 0 then none else some (.inl (((pc : Int) + off).toNat, ls, r, h))
      | none => (none : am_O)) = _
  unfold am_tg at ht
  split
  · rename_i hc
    rw [if_pos hc] at ht
    cases ht
    rfl
  · rename_i hc
    rw [if_neg hc] at ht
    split at ht
    · rename_i off ho
      split at ht
      · cases ht
      · rename_i hn
        rw [if_neg hn]
        cases ht
        rfl
    · cases ht
/-! ===== Laws: facts and values ===== -/
def am_laws (p : Nat) (z t w : Int32) : am_C := .inl (1, [.ref (p + 8), .int z, .ref (p + 9), .int t, .ref (p + 10), .int w, .ref (p + 11), .ref (p + 12)])
theorem c_X1_setWhere {h : am_H} {Q : Option Value → am_H → Prop} {p : Nat} {z t w : Int32} {f : Nat → Int32} (h8 : 8 ≤ p) (hl : h.2.2 (p + 7) = .inl (1, [.ref (p + 8), .int z, .ref (p + 9), .int t, .ref (p + 10), .int w, .ref (p + 11), .ref (p + 12)])) (hf : h.2.2 (p + 11) = am_ints 7 f) {x0 x1 x2 x3 : Int32} (q : Q none (am_up h (p + 11) (am_ints 7 (upd (upd (upd (upd f 0 x0) 1 x1) 2 x2) 3 x3)))) : AC am_P 0 0 22 [.ref (p + 7), .int x0, .int x1, .int x2, .int x3] h Q := by
  refine AC.of (ls := [_, _, _, _, _]) rfl ?_
  refine aw rfl rfl ?_
  refine aw_getf rfl (by repeat first | assumption | exact hg_eq | refine hg_ne (by first | assumption | omega) ?_) rfl ?_
  refine aw_c (v := nI 0) rfl (by decide) ?_
  refine aw rfl rfl ?_
  refine aw_iast (k := 0) rfl (by repeat first | assumption | exact hg_eq | refine hg_ne (by first | assumption | omega) ?_) rfl (by decide) (by decide) (by omega) ?_
  refine aw rfl rfl ?_
  refine aw_getf rfl (by repeat first | assumption | exact hg_eq | refine hg_ne (by first | assumption | omega) ?_) rfl ?_
  refine aw_c (v := nI 1) rfl (by decide) ?_
  refine aw rfl rfl ?_
  refine aw_iast (k := 1) rfl (by repeat first | assumption | exact hg_eq | refine hg_ne (by first | assumption | omega) ?_) rfl (by decide) (by decide) (by omega) ?_
  refine aw rfl rfl ?_
  refine aw_getf rfl (by repeat first | assumption | exact hg_eq | refine hg_ne (by first | assumption | omega) ?_) rfl ?_
  refine aw_c (v := nI 2) rfl (by decide) ?_
  refine aw rfl rfl ?_
  refine aw_iast (k := 2) rfl (by repeat first | assumption | exact hg_eq | refine hg_ne (by first | assumption | omega) ?_) rfl (by decide) (by decide) (by omega) ?_
  refine aw rfl rfl ?_
  refine aw_getf rfl (by repeat first | assumption | exact hg_eq | refine hg_ne (by first | assumption | omega) ?_) rfl ?_
  refine aw_c (v := nI 3) rfl (by decide) ?_
  refine aw rfl rfl ?_
  refine aw_iast (k := 3) rfl (by repeat first | assumption | exact hg_eq | refine hg_ne (by first | assumption | omega) ?_) rfl (by decide) (by decide) (by omega) ?_
  exact aw_vret rfl rfl (by simp only [am_up_up]; exact q)
theorem c_X1_setHow {h : am_H} {Q : Option Value → am_H → Prop} {p : Nat} {z t w : Int32} {f : Nat → Int32} (h8 : 8 ≤ p) (hl : h.2.2 (p + 7) = .inl (1, [.ref (p + 8), .int z, .ref (p + 9), .int t, .ref (p + 10), .int w, .ref (p + 11), .ref (p + 12)])) (hf : h.2.2 (p + 11) = am_ints 7 f) {x0 x1 x2 : Int32} (q : Q none (am_up h (p + 11) (am_ints 7 (upd (upd (upd f 4 x0) 5 x1) 6 x2)))) : AC am_P 0 0 23 [.ref (p + 7), .int x0, .int x1, .int x2] h Q := by
  refine AC.of (ls := [_, _, _, _]) rfl ?_
  refine aw rfl rfl ?_
  refine aw_getf rfl (by repeat first | assumption | exact hg_eq | refine hg_ne (by first | assumption | omega) ?_) rfl ?_
  refine aw_c (v := nI 4) rfl (by decide) ?_
  refine aw rfl rfl ?_
  refine aw_iast (k := 4) rfl (by repeat first | assumption | exact hg_eq | refine hg_ne (by first | assumption | omega) ?_) rfl (by decide) (by decide) (by omega) ?_
  refine aw rfl rfl ?_
  refine aw_getf rfl (by repeat first | assumption | exact hg_eq | refine hg_ne (by first | assumption | omega) ?_) rfl ?_
  refine aw_c (v := nI 5) rfl (by decide) ?_
  refine aw rfl rfl ?_
  refine aw_iast (k := 5) rfl (by repeat first | assumption | exact hg_eq | refine hg_ne (by first | assumption | omega) ?_) rfl (by decide) (by decide) (by omega) ?_
  refine aw rfl rfl ?_
  refine aw_getf rfl (by repeat first | assumption | exact hg_eq | refine hg_ne (by first | assumption | omega) ?_) rfl ?_
  refine aw_c (v := nI 6) rfl (by decide) ?_
  refine aw rfl rfl ?_
  refine aw_iast (k := 6) rfl (by repeat first | assumption | exact hg_eq | refine hg_ne (by first | assumption | omega) ?_) rfl (by decide) (by decide) (by omega) ?_
  exact aw_vret rfl rfl (by simp only [am_up_up]; exact q)
def n_fact (f : Nat → Int32) (x : Int32) : Int32 := if x < 0 ∨ nI 7 ≤ x then nI 0 else f x.toNatClampNeg
theorem c_X1_factAt {h : am_H} {Q : Option Value → am_H → Prop} {p : Nat} {z t w : Int32} {f : Nat → Int32} (h8 : 8 ≤ p) (hl : h.2.2 (p + 7) = .inl (1, [.ref (p + 8), .int z, .ref (p + 9), .int t, .ref (p + 10), .int w, .ref (p + 11), .ref (p + 12)])) (hf : h.2.2 (p + 11) = am_ints 7 f) {x : Int32} (q : Q (some (.int (n_fact f x))) h) : AC am_P 0 0 25 [.ref (p + 7), .int x] h Q := by
  refine AC.of (ls := [_, _]) rfl ?_
  refine aw rfl rfl ?_
  refine aw_lt rfl (fun c1 => ?_) (fun c1 => ?_)
  · refine aw_c (v := nI 0) rfl (by decide) ?_
    exact aw_iret rfl rfl (by rw [n_fact, if_pos (Or.inl c1)] at q; exact q)
  · refine aw rfl rfl ?_
    refine aw rfl rfl ?_
    refine aw_getf rfl (by repeat first | assumption | exact hg_eq | refine hg_ne (by first | assumption | omega) ?_) rfl ?_
    refine aw_alen rfl (by repeat first | assumption | exact hg_eq | refine hg_ne (by first | assumption | omega) ?_) rfl ?_
    refine aw_ige rfl (fun c10 => ?_) (fun c10 => ?_)
    · refine aw_c (v := nI 0) rfl (by decide) ?_
      exact aw_iret rfl rfl (by rw [n_fact, if_pos (Or.inr c10)] at q; exact q)
    · refine aw rfl rfl ?_
      refine aw_getf rfl (by repeat first | assumption | exact hg_eq | refine hg_ne (by first | assumption | omega) ?_) rfl ?_
      refine aw rfl rfl ?_
      refine aw_iald (k := x.toNatClampNeg) rfl (by repeat first | assumption | exact hg_eq | refine hg_ne (by first | assumption | omega) ?_) (by obtain ⟨j, hj, e⟩ := pk_mu c1 c10 (by decide); rw [e.1, nI_clamp (by omega)]) (by obtain ⟨j, hj, e⟩ := pk_mu c1 c10 (by decide); rw [e.1, nI_clamp (by omega)]; exact hj) (by decide) ?_
      refine aw rfl rfl ?_
      exact aw_iret rfl rfl (by rw [n_fact, if_neg (fun z => z.elim c1 c10)] at q; exact q)
def n_join (s a b : Int32) : Int32 := if s = nI 2 then a + b else if s = nI 3 then a - b else if s = nI 4 then a * b else if b = 0 then nI 0 else a / b
theorem c_X1_joined {h : am_H} {Q : Option Value → am_H → Prop} {s a b : Int32} (q : Q (some (.int (n_join s a b))) h) : AC am_P 0 0 26 [.int s, .int a, .int b] h Q := by
  refine AC.of (ls := [_, _, _]) rfl ?_
  refine aw rfl rfl ?_
  unfold n_join at q
  by_cases e2 : s = nI 2
  · subst e2
    refine aw_ts (z := 2) (tgt := 28) rfl (by decide) (by decide) ?_
    refine aw rfl rfl ?_
    refine aw rfl rfl ?_
    refine aw rfl rfl ?_
    exact aw_iret rfl rfl (by rw [if_pos rfl] at q; exact q)
  rw [if_neg e2] at q
  by_cases e3 : s = nI 3
  · subst e3
    refine aw_ts (z := 3) (tgt := 32) rfl (by decide) (by decide) ?_
    refine aw rfl rfl ?_
    refine aw rfl rfl ?_
    refine aw rfl rfl ?_
    exact aw_iret rfl rfl (by rw [if_pos rfl] at q; exact q)
  rw [if_neg e3] at q
  by_cases e4 : s = nI 4
  · subst e4
    refine aw_ts (z := 4) (tgt := 36) rfl (by decide) (by decide) ?_
    refine aw rfl rfl ?_
    refine aw rfl rfl ?_
    refine aw rfl rfl ?_
    exact aw_iret rfl rfl (by rw [if_pos rfl] at q; exact q)
  rw [if_neg e4] at q
  refine aw_ts (tgt := 40) rfl rfl ?_ ?_
  · unfold am_tg
    rw [if_pos]
    rcases Int.lt_or_le s.toInt 2 with g | g
    · exact Or.inl g
    · right
      rcases Int.lt_or_le 4 s.toInt with g2 | g2
      · exact g2
      · exfalso
        rcases (show s.toInt = 2 ∨ s.toInt = 3 ∨ s.toInt = 4 by omega) with g3 | g3 | g3
        · exact e2 (Int32.toInt_inj.mp (g3.trans (by decide)))
        · exact e3 (Int32.toInt_inj.mp (g3.trans (by decide)))
        · exact e4 (Int32.toInt_inj.mp (g3.trans (by decide)))
  refine aw rfl rfl ?_
  refine aw_ne rfl (fun c => ?_) (fun c => ?_)
  · refine aw rfl rfl ?_
    refine aw rfl rfl ?_
    refine aw_idiv rfl c ?_
    exact aw_iret rfl rfl (by rw [if_neg c] at q; exact q)
  · refine aw_c (v := nI 0) rfl (by decide) ?_
    refine aw rfl rfl ?_
    exact aw_iret rfl rfl (by rw [if_pos c] at q; exact q)

/-- the law's value: steps from i on, top numbers on the stack *-/
def n_vl (steps f : Nat → Int32) (size : Nat) : Nat → Nat → Nat → (Nat → Int32) → Int32 × (Nat → Int32)
  | 0, _, _, sk => (nI 0, sk)
  | n + 1, i, top, sk => if size ≤ i then (nI 0, sk) else
    if steps i &&& nI 7 = nI 7 then (sk 0, sk)
    else if steps i &&& nI 7 = 0 then (if 32 ≤ top then (nI 0, sk) else n_vl steps f size n (i + 1) (top + 1) (upd sk top (steps i >>> (nI 3 &&& 31))))
    else if steps i &&& nI 7 = nI 1 then (if 32 ≤ top then (nI 0, sk) else n_vl steps f size n (i + 1) (top + 1) (upd sk top (n_fact f (steps i >>> (nI 3 &&& 31)))))
    else if top < 2 then (nI 0, sk)
    else if steps i &&& nI 7 = nI 5 ∧ sk (top - 1) = 0 then (nI 0, sk)
    else if steps i &&& nI 7 = nI 6 then (if sk (top - 2) < sk (top - 1) then n_vl steps f size n (i + 1) (top - 2) sk else n_vl steps f size n ((if nI i < (steps i >>> (nI 3 &&& 31)) - nI 1 then (steps i >>> (nI 3 &&& 31)) - nI 1 else nI i).toNatClampNeg + 1) (top - 2) sk)
    else n_vl steps f size n (i + 1) (top - 1) (upd sk (top - 2) (n_join (steps i &&& nI 7) (sk (top - 2)) (sk (top - 1))))
theorem n_shr3 (w : Int32) : (w >>> (nI 3 &&& 31)).toInt < 268435456 := by
  have h1 := pk_shr w (nI 3 &&& 31) 3 (by decide)
  rw [h1]
  have h2 : w.toInt < 2147483648 := by have := Int32.toInt_lt w; omega
  rw [Int.shiftRight_eq_div_pow]
  omega
end
section
/-! ===== Laws.value: the loop ===== -/
theorem n_and7 (w : Int32) : ∃ j : Nat, j < 8 ∧ w &&& nI 7 = nI j := pk_andE w 3 (by decide)
theorem l_value {h : am_H} {Q : Option Value → am_H → Prop} {p k size : Nat} {x2 t w : Int32} {steps f : Nat → Int32} (h8 : 8 ≤ p) (hl : h.2.2 (p + 7) = .inl (1, [.ref (p + 8), .int (nI size), .ref (p + 9), .int t, .ref (p + 10), .int w, .ref (p + 11), .ref (p + 12)])) (hst : h.2.2 (p + 8) = am_ints 400 steps) (hf : h.2.2 (p + 11) = am_ints 7 f) (hsz : size ≤ 400) :
    ∀ (n i top : Nat) (sk : Nat → Int32) (o5 o6 : Option Value), i < 300000000 → top ≤ 32 → size < i + n → Q (some (.int (n_vl steps f size n i top sk).1)) (am_up h (p + 12) (am_ints 32 (n_vl steps f size n i top sk).2)) →
    AW am_P 1 22 24 35 [some (.ref (p + 7)), some (.int (nI k)), some (.int x2), some (.int (nI top)), some (.int (nI i)), o5, o6] [] (am_up h (p + 12) (am_ints 32 sk)) Q := by
  intro n
  induction n with
  | zero =>
    intro i top sk o5 o6 hi ht hn q
    refine aw rfl rfl ?_
    refine aw rfl rfl ?_
    refine aw_getf rfl (by repeat first | assumption | exact hg_eq | refine hg_ne (by first | assumption | omega) ?_) rfl ?_
    refine aw_ige rfl (fun c41 => ?_) (fun c41 => absurd (nI_le (by omega) (by omega)) c41)
    refine aw_c (v := nI 0) rfl (by decide) ?_
    exact aw_iret rfl rfl q
  | succ n ih =>
    intro i top sk o5 o6 hi ht hn q
    rw [n_vl] at q
    refine aw rfl rfl ?_
    refine aw rfl rfl ?_
    refine aw_getf rfl (by repeat first | assumption | exact hg_eq | refine hg_ne (by first | assumption | omega) ?_) rfl ?_
    refine aw_ige rfl (fun c41 => ?_) (fun c41 => ?_)
    · rw [if_pos ((nI_leI (by omega) (by omega)).mp c41)] at q
      refine aw_c (v := nI 0) rfl (by decide) ?_
      exact aw_iret rfl rfl q
    have hlt : i < size := Nat.not_le.mp fun z => c41 (nI_le z (by omega))
    rw [if_neg (show ¬ size ≤ i by omega)] at q
    refine aw rfl rfl ?_
    refine aw_getf rfl (by repeat first | assumption | exact hg_eq | refine hg_ne (by first | assumption | omega) ?_) rfl ?_
    refine aw rfl rfl ?_
    refine aw_iald (k := i) rfl (by repeat first | assumption | exact hg_eq | refine hg_ne (by first | assumption | omega) ?_) rfl (by omega) (by decide) ?_
    refine aw_c (v := nI 7) rfl (by decide) ?_
    refine aw rfl rfl ?_
    refine aw_ist (ls' := [_, _, _, _, _, _, _]) rfl rfl ?_
    refine aw rfl rfl ?_
    refine aw_getf rfl (by repeat first | assumption | exact hg_eq | refine hg_ne (by first | assumption | omega) ?_) rfl ?_
    refine aw rfl rfl ?_
    refine aw_iald (k := i) rfl (by repeat first | assumption | exact hg_eq | refine hg_ne (by first | assumption | omega) ?_) rfl (by omega) (by decide) ?_
    refine aw_c (v := nI 3) rfl (by decide) ?_
    refine aw rfl rfl ?_
    refine aw_ist (ls' := [_, _, _, _, _, _, _]) rfl rfl ?_
    have hx28 := n_shr3 (steps i)
    generalize hx : steps i >>> (nI 3 &&& 31) = x at q hx28 ⊢
    generalize hop : steps i &&& nI 7 = op at q ⊢
    have back : ∀ (i' top' : Nat) (sk' : Nat → Int32), i' < 300000000 → top' ≤ 32 → size < i' + n → Q (some (.int (n_vl steps f size n i' top' sk').1)) (am_up h (p + 12) (am_ints 32 (n_vl steps f size n i' top' sk').2)) → ∀ j, nI j + nI 1 = nI i' → AW am_P 1 22 24 228 [some (.ref (p + 7)), some (.int (nI k)), some (.int x2), some (.int (nI top')), some (.int (nI j)), some (.int op), some (.int x)] [] (am_up h (p + 12) (am_ints 32 sk')) Q := by
      intro i' top' sk' hi' ht' hn' q' j hj
      refine aw_inc (c := nI 1) (ls' := [_, _, _, _, _, _, _]) rfl rfl (by decide) rfl ?_
      rw [hj]
      refine aw rfl rfl ?_
      exact ih i' top' sk' _ _ hi' ht' hn' q'
    refine aw rfl rfl ?_
    refine aw_c (v := nI 7) rfl (by decide) ?_
    refine aw_ine rfl (fun c71 => ?_) (fun c71 => ?_)
    rotate_left
    · rw [if_pos c71] at q
      refine aw rfl rfl ?_
      refine aw_getf rfl (by repeat first | assumption | exact hg_eq | refine hg_ne (by first | assumption | omega) ?_) rfl ?_
      refine aw_c (v := nI 0) rfl (by decide) ?_
      refine aw_iald (k := 0) rfl (by repeat first | assumption | exact hg_eq | refine hg_ne (by first | assumption | omega) ?_) rfl (by decide) (by decide) ?_
      exact aw_iret rfl rfl q
    rw [if_neg c71] at q
    refine aw rfl rfl ?_
    have push : ∀ v : Int32, (32 ≤ top → Q (some (.int (nI 0))) (am_up h (p + 12) (am_ints 32 sk))) → (¬ 32 ≤ top → Q (some (.int (n_vl steps f size n (i + 1) (top + 1) (upd sk top v)).1)) (am_up h (p + 12) (am_ints 32 (n_vl steps f size n (i + 1) (top + 1) (upd sk top v)).2))) → (op = 0 ∧ x = v ∨ ¬ op = 0 ∧ n_fact f x = v) → AW am_P 1 22 24 92 [some (.ref (p + 7)), some (.int (nI k)), some (.int x2), some (.int (nI top)), some (.int (nI i)), some (.int op), some (.int x)] [] (am_up h (p + 12) (am_ints 32 sk)) Q := by
      intro v q1 q2 hv
      refine aw rfl rfl ?_
      refine aw_c (v := nI 32) rfl (by decide) ?_
      refine aw_ilt rfl (fun c95 => ?_) (fun c95 => ?_)
      rotate_left
      · refine aw_c (v := nI 0) rfl (by decide) ?_
        exact aw_iret rfl rfl (q1 (Nat.not_lt.mp fun z => c95 (nI_lt z (by decide))))
      have htop : top < 32 := (nI_ltI (by omega) (by decide)).mp c95
      have fin : AW am_P 1 22 24 121 [some (.ref (p + 7)), some (.int (nI k)), some (.int x2), some (.int (nI top)), some (.int (nI i)), some (.int op), some (.int x)] [.int v, .int (nI top), .ref (p + 12)] (am_up h (p + 12) (am_ints 32 sk)) Q := by
        refine aw_iast (k := top) rfl (by repeat first | assumption | exact hg_eq | refine hg_ne (by first | assumption | omega) ?_) rfl htop (by decide) (by omega) ?_
        rw [am_up_up]
        refine aw_inc (c := nI 1) (ls' := [_, _, _, _, _, _, _]) rfl rfl (by decide) rfl ?_
        rw [nI_add]
        refine aw rfl rfl ?_
        exact back (i + 1) (top + 1) _ (by omega) (by omega) (by omega) (q2 (by omega)) i (nI_add i 1)
      refine aw rfl rfl ?_
      refine aw_getf rfl (by repeat first | assumption | exact hg_eq | refine hg_ne (by first | assumption | omega) ?_) rfl ?_
      refine aw rfl rfl ?_
      refine aw rfl rfl ?_
      refine aw_ne rfl (fun c107 => ?_) (fun c107 => ?_)
      · rcases hv with ⟨e, -⟩ | ⟨-, e⟩
        · exact absurd e c107
        refine aw rfl rfl ?_
        refine aw rfl rfl ?_
        refine aw_cv (d1 := 0) (L1 := 0) rfl rfl (by repeat first | assumption | exact hg_eq | refine hg_ne (by first | assumption | omega) ?_) rfl rfl (by decide) (by decide) (Nat.le_of_ble_eq_true rfl) (c_X1_factAt h8 (by repeat first | assumption | exact hg_eq | refine hg_ne (by first | assumption | omega) ?_) (by repeat first | assumption | exact hg_eq | refine hg_ne (by first | assumption | omega) ?_) ?_)
        rw [e]
        exact fin
      · rcases hv with ⟨-, e⟩ | ⟨e, -⟩
        · refine aw rfl rfl ?_
          refine aw rfl rfl ?_
          subst e
          exact fin
        · exact absurd c107 e
    refine aw_eq rfl (fun c83 => ?_) (fun c83 => ?_)
    · rw [if_pos c83] at q
      refine push x (fun z => ?_) (fun z => ?_) (Or.inl ⟨c83, rfl⟩)
      · rw [if_pos z] at q; exact q
      · rw [if_neg z] at q; exact q
    rw [if_neg c83] at q
    refine aw rfl rfl ?_
    refine aw_c (v := nI 1) rfl (by decide) ?_
    refine aw_ine rfl (fun c89 => ?_) (fun c89 => ?_)
    rotate_left
    · rw [if_pos c89] at q
      refine push (n_fact f x) (fun z => ?_) (fun z => ?_) (Or.inr ⟨c83, rfl⟩)
      · rw [if_pos z] at q; exact q
      · rw [if_neg z] at q; exact q
    rw [if_neg c89] at q
    refine aw rfl rfl ?_
    refine aw_c (v := nI 2) rfl (by decide) ?_
    refine aw_ilt rfl (fun c130 => ?_) (fun c130 => ?_)
    · rw [if_pos ((nI_ltI (by omega) (by decide)).mp c130)] at q
      refine aw_c (v := nI 0) rfl (by decide) ?_
      exact aw_iret rfl rfl q
    have htop2 : 2 ≤ top := Nat.not_lt.mp fun z => c130 (nI_lt z (by decide))
    rw [if_neg (show ¬ top < 2 by omega)] at q
    have e1 : nI top - nI 1 = nI (top - 1) := pk_sub (by omega)
    have main : (op = nI 5 → ¬ sk (top - 1) = 0) → AW am_P 1 22 24 152 [some (.ref (p + 7)), some (.int (nI k)), some (.int x2), some (.int (nI top)), some (.int (nI i)), some (.int op), some (.int x)] [] (am_up h (p + 12) (am_ints 32 sk)) Q := by
      intro hnz
      rw [if_neg (fun z => hnz z.1 z.2)] at q
      refine aw rfl rfl ?_
      refine aw_c (v := nI 6) rfl (by decide) ?_
      refine aw_ine rfl (fun c156 => ?_) (fun c156 => ?_)
      · rw [if_neg c156] at q
        refine aw_inc (c := -1) (ls' := [_, _, _, _, _, _, _]) rfl rfl (by decide) rfl ?_
        rw [sb_m1 (show 0 < top by omega)]
        have e2 : nI (top - 1) - nI 1 = nI (top - 2) := by rw [pk_sub (by omega)]; rfl
        refine aw rfl rfl ?_
        refine aw_getf rfl (by repeat first | assumption | exact hg_eq | refine hg_ne (by first | assumption | omega) ?_) rfl ?_
        refine aw rfl rfl ?_
        refine aw_c (v := nI 1) rfl (by decide) ?_
        refine aw rfl rfl ?_
        refine aw rfl rfl ?_
        refine aw rfl rfl ?_
        refine aw_getf rfl (by repeat first | assumption | exact hg_eq | refine hg_ne (by first | assumption | omega) ?_) rfl ?_
        refine aw rfl rfl ?_
        refine aw_c (v := nI 1) rfl (by decide) ?_
        refine aw rfl rfl ?_
        refine aw_iald (k := top - 2) rfl (by repeat first | assumption | exact hg_eq | refine hg_ne (by first | assumption | omega) ?_) e2 (by omega) (by decide) ?_
        refine aw rfl rfl ?_
        refine aw_getf rfl (by repeat first | assumption | exact hg_eq | refine hg_ne (by first | assumption | omega) ?_) rfl ?_
        refine aw rfl rfl ?_
        refine aw_iald (k := top - 1) rfl (by repeat first | assumption | exact hg_eq | refine hg_ne (by first | assumption | omega) ?_) rfl (by omega) (by decide) ?_
        refine aw_cs (d1 := 0) (L1 := 0) rfl rfl (by decide) (by decide) (Nat.le_of_ble_eq_true rfl) (c_X1_joined ?_)
        refine aw_iast (k := top - 2) rfl (by repeat first | assumption | exact hg_eq | refine hg_ne (by first | assumption | omega) ?_) e2 (by omega) (by decide) (by omega) ?_
        rw [am_up_up]
        exact back (i + 1) (top - 1) _ (by omega) (by omega) (by omega) q i (nI_add i 1)
      · rw [if_pos c156] at q
        refine aw_inc (c := -2) (ls' := [_, _, _, _, _, _, _]) rfl rfl (by decide) rfl ?_
        have e2 : nI top + (-2) = nI (top - 2) := by
          rw [show (-2 : Int32) = (-1) + (-1) by decide, ← Int32.add_assoc, sb_m1 (show 0 < top by omega), sb_m1 (show 0 < top - 1 by omega)]
          rfl
        rw [e2]
        have e3 : nI (top - 2) + nI 1 = nI (top - 1) := by rw [nI_add]; congr 1; omega
        refine aw rfl rfl ?_
        refine aw_getf rfl (by repeat first | assumption | exact hg_eq | refine hg_ne (by first | assumption | omega) ?_) rfl ?_
        refine aw rfl rfl ?_
        refine aw_iald (k := top - 2) rfl (by repeat first | assumption | exact hg_eq | refine hg_ne (by first | assumption | omega) ?_) rfl (by omega) (by decide) ?_
        refine aw rfl rfl ?_
        refine aw_getf rfl (by repeat first | assumption | exact hg_eq | refine hg_ne (by first | assumption | omega) ?_) rfl ?_
        refine aw rfl rfl ?_
        refine aw_c (v := nI 1) rfl (by decide) ?_
        refine aw rfl rfl ?_
        refine aw_iald (k := top - 1) rfl (by repeat first | assumption | exact hg_eq | refine hg_ne (by first | assumption | omega) ?_) e3 (by omega) (by decide) ?_
        refine aw_ige rfl (fun c176 => ?_) (fun c176 => ?_)
        · rw [if_neg (Int32.not_lt.mpr c176)] at q
          refine aw rfl rfl ?_
          refine aw rfl rfl ?_
          refine aw_c (v := nI 1) rfl (by decide) ?_
          refine aw rfl rfl ?_
          refine aw rfl rfl ?_
          have hj : ∃ j : Nat, j < 268435456 + i + 1 ∧ i ≤ j ∧ (if nI i < x - nI 1 then x - nI 1 else nI i) = nI j := by
            split
            · rename_i hc
              have h0 : ¬ x - nI 1 < 0 := by
                intro z
                have := Int32.lt_trans hc z
                exact nI_pos (by omega) this
              obtain ⟨j, hj, e⟩ := nI_of h0
              refine ⟨j, ?_, ?_, e⟩
              · have ex : x = nI (j + 1) := by
                  rw [← nI_add, ← e]
                  simp
                rw [ex] at hx28
                by_cases hjj : j + 1 < 2147483648
                · rw [nI_toInt hjj] at hx28
                  omega
                · exfalso
                  have hj1 : j + 1 = 2147483648 := by omega
                  rw [hj1] at ex
                  have h1 : (steps i >>> (nI 3 &&& 31)).toInt = -2147483648 := by rw [hx, ex]; decide
                  rw [pk_shr (steps i) (nI 3 &&& 31) 3 (by decide), Int.shiftRight_eq_div_pow] at h1
                  have h2 := Int32.le_toInt (steps i)
                  omega
              · rw [e] at hc
                exact Nat.le_of_lt ((nI_ltI (by omega) hj).mp hc)
            · exact ⟨i, by omega, Nat.le_refl _, rfl⟩
          obtain ⟨j, hj1, hj2, ej⟩ := hj
          rw [ej] at q ⊢
          rw [nI_clamp (by omega)] at q
          refine aw_ist (ls' := [_, _, _, _, _, _, _]) rfl rfl ?_
          refine aw rfl rfl ?_
          by_cases hbig : j + 1 < 300000000
          · exact back (j + 1) (top - 2) _ hbig (by omega) (by omega) q j (nI_add j 1)
          · exfalso; omega
        · rw [if_pos (Int32.not_le.mp c176)] at q
          refine aw rfl rfl ?_
          refine aw rfl rfl ?_
          refine aw_ist (ls' := [_, _, _, _, _, _, _]) rfl rfl ?_
          refine aw rfl rfl ?_
          exact back (i + 1) (top - 2) _ (by omega) (by omega) (by omega) q i (nI_add i 1)
    refine aw rfl rfl ?_
    refine aw_c (v := nI 5) rfl (by decide) ?_
    refine aw_ine rfl (fun c136 => ?_) (fun c136 => ?_)
    · exact main (fun z => absurd z c136)
    · refine aw rfl rfl ?_
      refine aw_getf rfl (by repeat first | assumption | exact hg_eq | refine hg_ne (by first | assumption | omega) ?_) rfl ?_
      refine aw rfl rfl ?_
      refine aw_c (v := nI 1) rfl (by decide) ?_
      refine aw rfl rfl ?_
      refine aw_iald (k := top - 1) rfl (by repeat first | assumption | exact hg_eq | refine hg_ne (by first | assumption | omega) ?_) e1 (by omega) (by decide) ?_
      refine aw_ne rfl (fun c147 => ?_) (fun c147 => ?_)
      · exact main (fun _ => c147)
      · rw [if_pos ⟨c136, c147⟩] at q
        refine aw_c (v := nI 0) rfl (by decide) ?_
        exact aw_iret rfl rfl q
end
section
/-! ===== Laws.value from its start; Street: reads ===== -/
def n_val (steps starts f : Nat → Int32) (size k : Nat) (sk : Nat → Int32) : Int32 × (Nat → Int32) := if starts k < 0 then (nI 0, sk) else n_vl steps f size 401 (starts k).toNatClampNeg 0 sk
abbrev SL (h : am_H) (p size : Nat) (t w : Int32) : Prop := h.2.2 (p + 7) = .inl (1, [.ref (p + 8), .int (nI size), .ref (p + 9), .int t, .ref (p + 10), .int w, .ref (p + 11), .ref (p + 12)])
theorem am_up_self {h : am_H} {a : Nat} {c : am_C} (hc : h.2.2 a = c) : am_up h a c = h := by
  obtain ⟨n, k, f⟩ := h
  simp only [am_up]
  congr 2
  funext j
  by_cases e : j = a
  · subst e; simp [va_up]; exact hc.symm
  · simp [va_up, e]
theorem c_X1_value {h : am_H} {Q : Option Value → am_H → Prop} {p k size : Nat} {t w : Int32} {steps starts f sk : Nat → Int32} (h8 : 8 ≤ p) (hl : SL h p size t w) (hst : h.2.2 (p + 8) = am_ints 400 steps) (hsr : h.2.2 (p + 9) = am_ints 3 starts) (hf : h.2.2 (p + 11) = am_ints 7 f) (hk0 : h.2.2 (p + 12) = am_ints 32 sk) (hk : k < 3) (hsz : size ≤ 400) (hbd : starts k < nI 300000000) (q : Q (some (.int (n_val steps starts f size k sk).1)) (am_up h (p + 12) (am_ints 32 (n_val steps starts f size k sk).2))) : AC am_P 1 22 24 [.ref (p + 7), .int (nI k)] h Q := by
  refine AC.of (ls := [_, _, _, _, _, _, _]) rfl ?_
  unfold SL at hl
  refine aw rfl rfl ?_
  refine aw_lt rfl (fun c1 => absurd c1 (n_neg k (by omega))) (fun c1 => ?_)
  refine aw rfl rfl ?_
  refine aw rfl rfl ?_
  refine aw_getf rfl (by repeat first | assumption | exact hg_eq | refine hg_ne (by first | assumption | omega) ?_) rfl ?_
  refine aw_alen rfl (by repeat first | assumption | exact hg_eq | refine hg_ne (by first | assumption | omega) ?_) rfl ?_
  refine aw_ige rfl (fun c10 => absurd c10 (n_nle (by omega) (by decide))) (fun c10 => ?_)
  refine aw rfl rfl ?_
  refine aw_getf rfl (by repeat first | assumption | exact hg_eq | refine hg_ne (by first | assumption | omega) ?_) rfl ?_
  refine aw rfl rfl ?_
  refine aw_iald (k := k) rfl (by repeat first | assumption | exact hg_eq | refine hg_ne (by first | assumption | omega) ?_) rfl (by omega) (by decide) ?_
  refine aw rfl rfl ?_
  refine aw_ist (ls' := [_, _, _, _, _, _, _]) rfl rfl ?_
  refine aw rfl rfl ?_
  refine aw_ge rfl (fun c25 => ?_) (fun c25 => ?_)
  · refine aw_c (v := nI 0) rfl (by decide) ?_
    refine aw_ist (ls' := [_, _, _, _, _, _, _]) rfl rfl ?_
    refine aw rfl rfl ?_
    refine aw_ist (ls' := [_, _, _, _, _, _, _]) rfl rfl ?_
    exact (by
        have hs0 := nI_of (Int32.not_lt.mpr c25)
        obtain ⟨j, hj, ej⟩ := hs0
        rw [n_val, if_neg (Int32.not_lt.mpr c25), ej, nI_clamp hj] at q
        rw [ej] at hbd ⊢
        have hb2 := (nI_ltI hj (by decide)).mp hbd
        have hl' := l_value (Q := Q) (k := k) (x2 := nI j) h8 hl hst hf hsz 401 j 0 sk none none hb2 (by omega) (by omega) q
        rw [am_up_self hk0] at hl'
        exact hl')
  · refine aw_c (v := nI 0) rfl (by decide) ?_
    exact aw_iret rfl rfl (by rw [n_val, if_pos (Int32.not_le.mp c25), am_up_self hk0] at q; exact q)
/-- a street's data: scalars (0 length, 1 rows, 2 faces, 3 kicks, 4 lives, 5 takes, 6 seed, 7 the laws' size, 8 timed), rows (0 sorts, 1 outcomes, 2 sixths, 3 far, 4 aside, 5 turns, 6 stone, 7 friend, 8 steps, 9 starts) *-/
abbrev Sd : Type := (Nat → Nat) × (Nat → Nat → Int32)
def SA (h : am_H) (p : Nat) (T : Sd) : Prop := h.2.2 p = .inl (7, [.int (nI (T.1 0)), .int (nI (T.1 1)), .ref (p + 1), .int (nI (T.1 2)), .int (nI (T.1 3)), .ref (p + 2), .ref (p + 3), .ref (p + 4), .ref (p + 5), .ref (p + 6), .ref (p + 7), .ref (p + 13), .ref (p + 14), .int (nI (T.1 4)), .int (nI (T.1 5)), .int (nI (T.1 6))]) ∧ h.2.2 (p + 1) = am_ints 32 (T.2 0) ∧ h.2.2 (p + 2) = am_ints 4 (T.2 1) ∧ h.2.2 (p + 3) = am_ints 25 (T.2 2) ∧ h.2.2 (p + 4) = am_ints 25 (T.2 3) ∧ h.2.2 (p + 5) = am_ints 25 (T.2 4) ∧ h.2.2 (p + 6) = am_ints 25 (T.2 5) ∧ (∃ w, h.2.2 (p + 7) = .inl (1, [.ref (p + 8), .int (nI (T.1 7)), .ref (p + 9), .int (nI (T.1 8)), .ref (p + 10), .int w, .ref (p + 11), .ref (p + 12)])) ∧ h.2.2 (p + 8) = am_ints 400 (T.2 8) ∧ h.2.2 (p + 9) = am_ints 3 (T.2 9) ∧ h.2.2 (p + 13) = am_ints 3 (T.2 6) ∧ h.2.2 (p + 14) = am_ints 3 (T.2 7)
/-- the rows that evaluating the laws writes to *-/
def SX (h : am_H) (p : Nat) : Prop := (∃ f, h.2.2 (p + 11) = am_ints 7 f) ∧ ∃ f, h.2.2 (p + 12) = am_ints 32 f
def FX (p : Nat) (h h1 : am_H) : Prop := ∃ f sk, h1 = am_up (am_up h (p + 11) (am_ints 7 f)) (p + 12) (am_ints 32 sk)
theorem FX.get {p q : Nat} {h h1 : am_H} (hx : FX p h h1) (h1' : q ≠ p + 11) (h2' : q ≠ p + 12) : h1.2.2 q = h.2.2 q := by
  obtain ⟨f, sk, rfl⟩ := hx
  exact hg_ne h2' (hg_ne h1' rfl)
theorem FX.sz {p : Nat} {h h1 : am_H} (hx : FX p h h1) : h1.1 = h.1 ∧ h1.2.1 = h.2.1 := by
  obtain ⟨f, sk, rfl⟩ := hx
  exact ⟨rfl, rfl⟩
theorem am_up_comm {h : am_H} {a b : Nat} {c d : am_C} (hab : a ≠ b) : am_up (am_up h a c) b d = am_up (am_up h b d) a c := by
  simp only [am_up]
  congr 2
  funext j
  by_cases e : j = a
  · subst e; simp [va_up, hab]
  · by_cases e2 : j = b
    · subst e2; simp [va_up, e]
    · simp [va_up, e, e2]
theorem FX.trans {p : Nat} {h h1 h2 : am_H} (hx : FX p h h1) (hy : FX p h1 h2) : FX p h h2 := by
  obtain ⟨f, sk, rfl⟩ := hx
  obtain ⟨g, sl, rfl⟩ := hy
  refine ⟨g, sl, ?_⟩
  rw [am_up_comm (h := am_up h (p + 11) (am_ints 7 f)) (show p + 12 ≠ p + 11 by omega), am_up_up, am_up_up]
theorem FX.sx {p : Nat} {h h1 : am_H} (hx : FX p h h1) : SX h1 p := by
  obtain ⟨f, sk, rfl⟩ := hx
  exact ⟨⟨f, hg_ne (by omega) hg_eq⟩, ⟨sk, hg_eq⟩⟩
theorem FX.sa {p o : Nat} {h h1 : am_H} {T : Sd} (hx : FX p h h1) (ho : o = p ∨ o + 15 ≤ p ∨ p + 15 ≤ o) (hS : SA h o T) : SA h1 o T := by
  obtain ⟨s0, s1, s2, s3, s4, s5, s6, ⟨w, s7⟩, s8, s9, s13, s14⟩ := hS
  refine ⟨?_, ?_, ?_, ?_, ?_, ?_, ?_, ⟨w, ?_⟩, ?_, ?_, ?_, ?_⟩ <;> first | (rw [hx.get (by omega) (by omega)]; assumption)

theorem c_X7_sortAt {h : am_H} {Q : Option Value → am_H → Prop} {p : Nat} {T : Sd} (hS : SA h p T) {x y : Int32} (q1 : ∀ a c : Nat, x = nI a → y = nI c → a < 8 → c < 4 → Q (some (.int (T.2 0 (c * 8 + a)))) h) (q0 : (x < 0 ∨ nI 8 ≤ x ∨ y < 0 ∨ nI 4 ≤ y) → Q (some (.int (-1))) h) : AC am_P 0 0 94 [.ref p, .int x, .int y] h Q := by
  refine AC.of (ls := [_, _, _, _]) rfl ?_
  obtain ⟨s0, s1, s2, s3, s4, s5, s6, ⟨w, s7⟩, s8, s9, s13, s14⟩ := hS
  refine aw rfl rfl ?_
  refine aw_lt rfl (fun c1 => ?_) (fun c1 => ?_)
  · refine aw_c (v := nI 0) rfl (by decide) ?_
    refine aw_ist (ls' := [_, _, _, _]) rfl rfl ?_
    refine aw rfl rfl ?_
    refine aw_eq rfl (fun _ => ?_) (fun c => absurd (by decide) c)
    refine aw_c (v := -1) rfl (by decide) ?_
    exact aw_iret rfl rfl (q0 (Or.inl c1))
  · refine aw rfl rfl ?_
    refine aw_c (v := nI 8) rfl (by decide) ?_
    refine aw_ige rfl (fun c7 => ?_) (fun c7 => ?_)
    · refine aw_c (v := nI 0) rfl (by decide) ?_
      refine aw_ist (ls' := [_, _, _, _]) rfl rfl ?_
      refine aw rfl rfl ?_
      refine aw_eq rfl (fun _ => ?_) (fun c => absurd (by decide) c)
      refine aw_c (v := -1) rfl (by decide) ?_
      exact aw_iret rfl rfl (q0 (Or.inr (Or.inl c7)))
    · refine aw rfl rfl ?_
      refine aw_lt rfl (fun c11 => ?_) (fun c11 => ?_)
      · refine aw_c (v := nI 0) rfl (by decide) ?_
        refine aw_ist (ls' := [_, _, _, _]) rfl rfl ?_
        refine aw rfl rfl ?_
        refine aw_eq rfl (fun _ => ?_) (fun c => absurd (by decide) c)
        refine aw_c (v := -1) rfl (by decide) ?_
        exact aw_iret rfl rfl (q0 (Or.inr (Or.inr (Or.inl c11))))
      · refine aw rfl rfl ?_
        refine aw_c (v := nI 4) rfl (by decide) ?_
        refine aw_ige rfl (fun c16 => ?_) (fun c16 => ?_)
        · refine aw_c (v := nI 0) rfl (by decide) ?_
          refine aw_ist (ls' := [_, _, _, _]) rfl rfl ?_
          refine aw rfl rfl ?_
          refine aw_eq rfl (fun _ => ?_) (fun c => absurd (by decide) c)
          refine aw_c (v := -1) rfl (by decide) ?_
          exact aw_iret rfl rfl (q0 (Or.inr (Or.inr (Or.inr c16))))
        · refine aw_c (v := nI 1) rfl (by decide) ?_
          refine aw rfl rfl ?_
          refine aw_ist (ls' := [_, _, _, _]) rfl rfl ?_
          refine aw rfl rfl ?_
          refine aw_eq rfl (fun c => absurd c (by decide)) (fun _ => ?_)
          obtain ⟨a, ha, ea, -⟩ := pk_mu c1 c7 (by decide)
          obtain ⟨c, hc, ec, -⟩ := pk_mu c11 c16 (by decide)
          subst ea
          subst ec
          refine aw rfl rfl ?_
          refine aw_getf rfl (by repeat first | assumption | exact hg_eq | refine hg_ne (by first | assumption | omega) ?_) rfl ?_
          refine aw rfl rfl ?_
          refine aw_c (v := nI 8) rfl (by decide) ?_
          refine aw rfl rfl ?_
          refine aw rfl rfl ?_
          refine aw rfl rfl ?_
          refine aw_iald (k := c * 8 + a) rfl (by repeat first | assumption | exact hg_eq | refine hg_ne (by first | assumption | omega) ?_) (by rw [pk_mul, nI_add]) (by omega) (by decide) ?_
          refine aw rfl rfl ?_
          exact aw_iret rfl rfl (q1 a c rfl rfl ha hc)
theorem c_X7_sortOf {h : am_H} {Q : Option Value → am_H → Prop} {p : Nat} {T : Sd} (hS : SA h p T) {s : Nat} (hs : s < 32) (q : Q (some (.int (T.2 0 s))) h) : AC am_P 0 0 88 [.ref p, .int (nI s)] h Q := by
  refine AC.of (ls := [_, _]) rfl ?_
  obtain ⟨s0, s1, s2, s3, s4, s5, s6, ⟨w, s7⟩, s8, s9, s13, s14⟩ := hS
  refine aw rfl rfl ?_
  refine aw_lt rfl (fun c1 => absurd c1 (n_neg s (by omega))) (fun c1 => ?_)
  refine aw rfl rfl ?_
  refine aw_c (v := nI 32) rfl (by decide) ?_
  refine aw_ige rfl (fun c7 => absurd c7 (n_nle (by omega) (by decide))) (fun c7 => ?_)
  refine aw rfl rfl ?_
  refine aw_getf rfl (by repeat first | assumption | exact hg_eq | refine hg_ne (by first | assumption | omega) ?_) rfl ?_
  refine aw rfl rfl ?_
  refine aw_iald (k := s) rfl (by repeat first | assumption | exact hg_eq | refine hg_ne (by first | assumption | omega) ?_) rfl hs (by decide) ?_
  refine aw rfl rfl ?_
  exact aw_iret rfl rfl q
theorem c_X7_canLie {h : am_H} {Q : Option Value → am_H → Prop} {p : Nat} {T : Sd} (hS : SA h p T) {s : Nat} (hs : s < 32) (q1 : ¬ T.2 0 s = -1 → ¬ T.2 0 s = nI 4 → ¬ T.2 0 s = nI 5 → Q (some (.int (nI 1))) h) (q0 : (T.2 0 s = -1 ∨ T.2 0 s = nI 4 ∨ T.2 0 s = nI 5) → Q (some (.int (nI 0))) h) : AC am_P 1 21 89 [.ref p, .int (nI s)] h Q := by
  refine AC.of (ls := [_, _, _]) rfl ?_
  have s0 := hS.1
  refine aw rfl rfl ?_
  refine aw rfl rfl ?_
  refine aw_cv (d1 := 0) (L1 := 0) rfl rfl (by repeat first | assumption | exact hg_eq | refine hg_ne (by first | assumption | omega) ?_) rfl rfl (by decide) (by decide) (Nat.le_of_ble_eq_true rfl) (c_X7_sortOf hS hs ?_)
  refine aw_ist (ls' := [_, _, _]) rfl rfl ?_
  refine aw rfl rfl ?_
  refine aw_c (v := -1) rfl (by decide) ?_
  refine aw_ieq rfl (fun c8 => ?_) (fun c8 => ?_)
  · refine aw_c (v := nI 0) rfl (by decide) ?_
    exact aw_iret rfl rfl (q0 (Or.inl c8))
  · refine aw rfl rfl ?_
    refine aw_c (v := nI 4) rfl (by decide) ?_
    refine aw_ieq rfl (fun c13 => ?_) (fun c13 => ?_)
    · refine aw_c (v := nI 0) rfl (by decide) ?_
      exact aw_iret rfl rfl (q0 (Or.inr (Or.inl c13)))
    · refine aw rfl rfl ?_
      refine aw_c (v := nI 5) rfl (by decide) ?_
      refine aw_ieq rfl (fun c18 => ?_) (fun c18 => ?_)
      · refine aw_c (v := nI 0) rfl (by decide) ?_
        exact aw_iret rfl rfl (q0 (Or.inr (Or.inr c18)))
      · refine aw_c (v := nI 1) rfl (by decide) ?_
        refine aw rfl rfl ?_
        exact aw_iret rfl rfl (q1 c8 c13 c18)
theorem c_X7_isHomeLie {h : am_H} {Q : Option Value → am_H → Prop} {p : Nat} {T : Sd} (hS : SA h p T) {l : Nat} (hl : l < 96) (q1 : T.2 0 (l / 3) = nI 6 → Q (some (.int (nI 1))) h) (q0 : ¬ T.2 0 (l / 3) = nI 6 → Q (some (.int (nI 0))) h) : AC am_P 1 21 90 [.ref p, .int (nI l)] h Q := by
  refine AC.of (ls := [_, _]) rfl ?_
  have s0 := hS.1
  refine aw rfl rfl ?_
  refine aw rfl rfl ?_
  refine aw_c (v := nI 3) rfl (by decide) ?_
  refine aw_idiv rfl (by decide) ?_
  rw [pk_div (by omega) (by decide) (by decide)]
  refine aw_cv (d1 := 0) (L1 := 0) rfl rfl (by repeat first | assumption | exact hg_eq | refine hg_ne (by first | assumption | omega) ?_) rfl rfl (by decide) (by decide) (Nat.le_of_ble_eq_true rfl) (c_X7_sortOf hS (by omega) ?_)
  refine aw_c (v := nI 6) rfl (by decide) ?_
  refine aw_ine rfl (fun c9 => ?_) (fun c9 => ?_)
  · refine aw_c (v := nI 0) rfl (by decide) ?_
    exact aw_iret rfl rfl (q0 c9)
  · refine aw_c (v := nI 1) rfl (by decide) ?_
    refine aw rfl rfl ?_
    exact aw_iret rfl rfl (q1 c9)
theorem c_X7_hasKick {h : am_H} {Q : Option Value → am_H → Prop} {p : Nat} {T : Sd} (hS : SA h p T) {x : Int32} (hk : T.1 3 < 2147483648) (q1 : ∀ k : Nat, x = nI k → k < T.1 3 → Q (some (.int (nI 1))) h) (q0 : (x < 0 ∨ nI (T.1 3) ≤ x) → Q (some (.int (nI 0))) h) : AC am_P 0 0 96 [.ref p, .int x] h Q := by
  refine AC.of (ls := [_, _]) rfl ?_
  obtain ⟨s0, s1, s2, s3, s4, s5, s6, ⟨w, s7⟩, s8, s9, s13, s14⟩ := hS
  refine aw rfl rfl ?_
  refine aw_lt rfl (fun c1 => ?_) (fun c1 => ?_)
  · refine aw_c (v := nI 0) rfl (by decide) ?_
    exact aw_iret rfl rfl (q0 (Or.inl c1))
  · refine aw rfl rfl ?_
    refine aw rfl rfl ?_
    refine aw_getf rfl (by repeat first | assumption | exact hg_eq | refine hg_ne (by first | assumption | omega) ?_) rfl ?_
    refine aw_ige rfl (fun c9 => ?_) (fun c9 => ?_)
    · refine aw_c (v := nI 0) rfl (by decide) ?_
      exact aw_iret rfl rfl (q0 (Or.inr c9))
    · refine aw_c (v := nI 1) rfl (by decide) ?_
      refine aw rfl rfl ?_
      exact aw_iret rfl rfl (by obtain ⟨j, hj, ej, -⟩ := pk_mu c1 c9 hk; exact q1 j ej hj)
theorem c_X7_hasOutcome {h : am_H} {Q : Option Value → am_H → Prop} {p : Nat} {T : Sd} (hS : SA h p T) {x y : Int32} (hk : T.1 3 ≤ 4) (q1 : ∀ k : Nat, x = nI k → k < T.1 3 → ¬ y < 0 → ¬ T.2 1 k ≤ y → Q (some (.int (nI 1))) h) (q0 : (x < 0 ∨ nI (T.1 3) ≤ x ∨ y < 0 ∨ (∃ k : Nat, x = nI k ∧ k < T.1 3 ∧ T.2 1 k ≤ y)) → Q (some (.int (nI 0))) h) : AC am_P 0 0 105 [.ref p, .int x, .int y] h Q := by
  refine AC.of (ls := [_, _, _]) rfl ?_
  obtain ⟨s0, s1, s2, s3, s4, s5, s6, ⟨w, s7⟩, s8, s9, s13, s14⟩ := hS
  refine aw rfl rfl ?_
  refine aw_lt rfl (fun c1 => ?_) (fun c1 => ?_)
  · refine aw_c (v := nI 0) rfl (by decide) ?_
    exact aw_iret rfl rfl (q0 (Or.inl c1))
  · refine aw rfl rfl ?_
    refine aw rfl rfl ?_
    refine aw_getf rfl (by repeat first | assumption | exact hg_eq | refine hg_ne (by first | assumption | omega) ?_) rfl ?_
    refine aw_ige rfl (fun c9 => ?_) (fun c9 => ?_)
    · refine aw_c (v := nI 0) rfl (by decide) ?_
      exact aw_iret rfl rfl (q0 (Or.inr (Or.inl c9)))
    · refine aw rfl rfl ?_
      refine aw_lt rfl (fun c13 => ?_) (fun c13 => ?_)
      · refine aw_c (v := nI 0) rfl (by decide) ?_
        exact aw_iret rfl rfl (q0 (Or.inr (Or.inr (Or.inl c13))))
      · obtain ⟨j, hj, ej, -⟩ := pk_mu c1 c9 (by omega)
        subst ej
        refine aw rfl rfl ?_
        refine aw rfl rfl ?_
        refine aw_getf rfl (by repeat first | assumption | exact hg_eq | refine hg_ne (by first | assumption | omega) ?_) rfl ?_
        refine aw rfl rfl ?_
        refine aw_iald (k := j) rfl (by repeat first | assumption | exact hg_eq | refine hg_ne (by first | assumption | omega) ?_) rfl (by omega) (by decide) ?_
        refine aw_ige rfl (fun c23 => ?_) (fun c23 => ?_)
        · refine aw_c (v := nI 0) rfl (by decide) ?_
          exact aw_iret rfl rfl (q0 (Or.inr (Or.inr (Or.inr ⟨j, rfl, hj, c23⟩))))
        · refine aw_c (v := nI 1) rfl (by decide) ?_
          refine aw rfl rfl ?_
          exact aw_iret rfl rfl (q1 j rfl hj c13 c23)
def n_ck (T : Sd) (s k : Nat) : Prop := ¬ T.2 0 s = -1 ∧ (T.2 0 s < nI 3 ∨ (T.2 0 s = nI 3 ∧ T.2 1 k = nI 1))
theorem c_X7_canKickFrom {h : am_H} {Q : Option Value → am_H → Prop} {p : Nat} {T : Sd} (hS : SA h p T) {s k : Nat} (hs : s < 32) (hk : k < T.1 3) (hk4 : T.1 3 ≤ 4) (q1 : n_ck T s k → Q (some (.int (nI 1))) h) (q0 : ¬ n_ck T s k → Q (some (.int (nI 0))) h) : AC am_P 0 0 97 [.ref p, .int (nI s), .int (nI k)] h Q := by
  refine AC.of (ls := [_, _, _]) rfl ?_
  obtain ⟨s0, s1, s2, s3, s4, s5, s6, ⟨w, s7⟩, s8, s9, s13, s14⟩ := hS
  unfold n_ck at q1 q0
  refine aw rfl rfl ?_
  refine aw_lt rfl (fun c1 => absurd c1 (n_neg k (by omega))) (fun c1 => ?_)
  refine aw rfl rfl ?_
  refine aw rfl rfl ?_
  refine aw_getf rfl (by repeat first | assumption | exact hg_eq | refine hg_ne (by first | assumption | omega) ?_) rfl ?_
  refine aw_ige rfl (fun c9 => absurd c9 (n_nle hk (by omega))) (fun c9 => ?_)
  refine aw rfl rfl ?_
  refine aw_lt rfl (fun c13 => absurd c13 (n_neg s (by omega))) (fun c13 => ?_)
  refine aw rfl rfl ?_
  refine aw_c (v := nI 32) rfl (by decide) ?_
  refine aw_ige rfl (fun c19 => absurd c19 (n_nle hs (by decide))) (fun c19 => ?_)
  refine aw rfl rfl ?_
  refine aw_getf rfl (by repeat first | assumption | exact hg_eq | refine hg_ne (by first | assumption | omega) ?_) rfl ?_
  refine aw rfl rfl ?_
  refine aw_iald (k := s) rfl (by repeat first | assumption | exact hg_eq | refine hg_ne (by first | assumption | omega) ?_) rfl hs (by decide) ?_
  refine aw_c (v := -1) rfl (by decide) ?_
  refine aw_ine rfl (fun c29 => ?_) (fun c29 => ?_)
  · refine aw rfl rfl ?_
    refine aw_getf rfl (by repeat first | assumption | exact hg_eq | refine hg_ne (by first | assumption | omega) ?_) rfl ?_
    refine aw rfl rfl ?_
    refine aw_iald (k := s) rfl (by repeat first | assumption | exact hg_eq | refine hg_ne (by first | assumption | omega) ?_) rfl hs (by decide) ?_
    refine aw_c (v := nI 3) rfl (by decide) ?_
    refine aw_ilt rfl (fun c41 => ?_) (fun c41 => ?_)
    · refine aw_c (v := nI 1) rfl (by decide) ?_
      refine aw rfl rfl ?_
      exact aw_iret rfl rfl (q1 ⟨c29, Or.inl c41⟩)
    · refine aw rfl rfl ?_
      refine aw_getf rfl (by repeat first | assumption | exact hg_eq | refine hg_ne (by first | assumption | omega) ?_) rfl ?_
      refine aw rfl rfl ?_
      refine aw_iald (k := s) rfl (by repeat first | assumption | exact hg_eq | refine hg_ne (by first | assumption | omega) ?_) rfl hs (by decide) ?_
      refine aw_c (v := nI 3) rfl (by decide) ?_
      refine aw_ine rfl (fun c51 => ?_) (fun c51 => ?_)
      · refine aw_c (v := nI 0) rfl (by decide) ?_
        exact aw_iret rfl rfl (q0 (fun z => z.2.elim c41 (fun z => c51 z.1)))
      · refine aw rfl rfl ?_
        refine aw_getf rfl (by repeat first | assumption | exact hg_eq | refine hg_ne (by first | assumption | omega) ?_) rfl ?_
        refine aw rfl rfl ?_
        refine aw_iald (k := k) rfl (by repeat first | assumption | exact hg_eq | refine hg_ne (by first | assumption | omega) ?_) rfl (by omega) (by decide) ?_
        refine aw_c (v := nI 1) rfl (by decide) ?_
        refine aw_ine rfl (fun c61 => ?_) (fun c61 => ?_)
        · refine aw_c (v := nI 0) rfl (by decide) ?_
          exact aw_iret rfl rfl (q0 (fun z => z.2.elim c41 (fun z => c61 z.2)))
        · refine aw_c (v := nI 1) rfl (by decide) ?_
          refine aw rfl rfl ?_
          exact aw_iret rfl rfl (q1 ⟨c29, Or.inr ⟨c51, c61⟩⟩)
  · refine aw_c (v := nI 0) rfl (by decide) ?_
    exact aw_iret rfl rfl (q0 (fun z => z.1 c29))
theorem c_X7_canDoFrom {h : am_H} {Q : Option Value → am_H → Prop} {p : Nat} {T : Sd} (hS : SA h p T) {s k : Nat} (hs : s < 32) (hk : k ≤ T.1 3) (hk4 : T.1 3 ≤ 4) (q1 : (k = T.1 3 ∨ n_ck T s k) → Q (some (.int (nI 1))) h) (q0 : k < T.1 3 → ¬ n_ck T s k → Q (some (.int (nI 0))) h) : AC am_P 1 22 106 [.ref p, .int (nI s), .int (nI k)] h Q := by
  refine AC.of (ls := [_, _, _]) rfl ?_
  have s0 := hS.1
  refine aw rfl rfl ?_
  refine aw rfl rfl ?_
  refine aw_getf rfl (by repeat first | assumption | exact hg_eq | refine hg_ne (by first | assumption | omega) ?_) rfl ?_
  refine aw_ieq rfl (fun c5 => ?_) (fun c5 => ?_)
  · refine aw_c (v := nI 1) rfl (by decide) ?_
    refine aw rfl rfl ?_
    exact aw_iret rfl rfl (q1 (Or.inl ((nI_eq (by omega) (by omega)).mp c5)))
  · have hk2 : k < T.1 3 := Nat.lt_of_le_of_ne hk (fun z => c5 (by rw [z]))
    refine aw rfl rfl ?_
    refine aw rfl rfl ?_
    refine aw rfl rfl ?_
    refine aw_cv (d1 := 0) (L1 := 0) rfl rfl (by repeat first | assumption | exact hg_eq | refine hg_ne (by first | assumption | omega) ?_) rfl rfl (by decide) (by decide) (Nat.le_of_ble_eq_true rfl) (c_X7_canKickFrom hS hs hk2 hk4 (fun g => ?_) (fun g => ?_))
    · refine aw_eq rfl (fun c => absurd c (by decide)) (fun _ => ?_)
      refine aw_c (v := nI 1) rfl (by decide) ?_
      refine aw rfl rfl ?_
      exact aw_iret rfl rfl (q1 (Or.inr g))
    · refine aw_eq rfl (fun _ => ?_) (fun c => absurd (by decide) c)
      refine aw_c (v := nI 0) rfl (by decide) ?_
      exact aw_iret rfl rfl (q0 hk2 g)
theorem c_X7_firstWay {h : am_H} {Q : Option Value → am_H → Prop} {p : Nat} {T : Sd} (hS : SA h p T) {k : Nat} (hk : k ≤ T.1 3) (hk4 : T.1 3 ≤ 4) (q : Q (some (.int (nI (if k = T.1 3 then 24 else k * 6)))) h) : AC am_P 0 0 101 [.ref p, .int (nI k)] h Q := by
  refine AC.of (ls := [_, _]) rfl ?_
  obtain ⟨s0, s1, s2, s3, s4, s5, s6, ⟨w, s7⟩, s8, s9, s13, s14⟩ := hS
  refine aw rfl rfl ?_
  refine aw rfl rfl ?_
  refine aw_getf rfl (by repeat first | assumption | exact hg_eq | refine hg_ne (by first | assumption | omega) ?_) rfl ?_
  refine aw_ine rfl (fun c5 => ?_) (fun c5 => ?_)
  · refine aw rfl rfl ?_
    refine aw_c (v := nI 6) rfl (by decide) ?_
    refine aw rfl rfl ?_
    exact aw_iret rfl rfl (by rw [if_neg (fun z => c5 (by rw [z]))] at q; rw [pk_mul]; exact q)
  · refine aw_c (v := nI 24) rfl (by decide) ?_
    refine aw rfl rfl ?_
    exact aw_iret rfl rfl (by rw [if_pos ((nI_eq (by omega) (by omega)).mp c5)] at q; exact q)
theorem c_X7_endOfWays {h : am_H} {Q : Option Value → am_H → Prop} {p : Nat} {T : Sd} (hS : SA h p T) {k : Nat} (hk : k ≤ T.1 3) (hk4 : T.1 3 ≤ 4) (q1 : k < T.1 3 → Q (some (.int (nI (k * 6) + T.2 1 k))) h) (q0 : k = T.1 3 → Q (some (.int (nI 25))) h) : AC am_P 0 0 102 [.ref p, .int (nI k)] h Q := by
  refine AC.of (ls := [_, _]) rfl ?_
  obtain ⟨s0, s1, s2, s3, s4, s5, s6, ⟨w, s7⟩, s8, s9, s13, s14⟩ := hS
  refine aw rfl rfl ?_
  refine aw_lt rfl (fun c1 => absurd c1 (n_neg k (by omega))) (fun c1 => ?_)
  refine aw rfl rfl ?_
  refine aw rfl rfl ?_
  refine aw_getf rfl (by repeat first | assumption | exact hg_eq | refine hg_ne (by first | assumption | omega) ?_) rfl ?_
  refine aw_ilt rfl (fun c9 => ?_) (fun c9 => ?_)
  · refine aw rfl rfl ?_
    refine aw_c (v := nI 6) rfl (by decide) ?_
    refine aw rfl rfl ?_
    refine aw rfl rfl ?_
    refine aw_getf rfl (by repeat first | assumption | exact hg_eq | refine hg_ne (by first | assumption | omega) ?_) rfl ?_
    refine aw rfl rfl ?_
    refine aw_iald (k := k) rfl (by repeat first | assumption | exact hg_eq | refine hg_ne (by first | assumption | omega) ?_) rfl (Nat.lt_of_lt_of_le ((nI_ltI (a := k) (b := T.1 3) (by omega) (by omega)).mp c9) hk4) (by decide) ?_
    refine aw rfl rfl ?_
    exact aw_iret rfl rfl (by rw [pk_mul]; exact q1 ((nI_ltI (by omega) (by omega)).mp c9))
  · refine aw_c (v := nI 25) rfl (by decide) ?_
    exact aw_iret rfl rfl (q0 (by have := mt (nI_ltI (a := k) (b := T.1 3) (by omega) (by omega)).mpr c9; omega))
theorem c_X7_sixthsOf {h : am_H} {Q : Option Value → am_H → Prop} {p : Nat} {T : Sd} (hS : SA h p T) {k : Nat} (hk : k < 25) (q : Q (some (.int (T.2 2 k))) h) : AC am_P 0 0 103 [.ref p, .int (nI k)] h Q := by
  refine AC.of (ls := [_, _]) rfl ?_
  obtain ⟨s0, s1, s2, s3, s4, s5, s6, ⟨w, s7⟩, s8, s9, s13, s14⟩ := hS
  refine aw rfl rfl ?_
  refine aw_lt rfl (fun c1 => absurd c1 (n_neg k (by omega))) (fun c1 => ?_)
  refine aw rfl rfl ?_
  refine aw_c (v := nI 25) rfl (by decide) ?_
  refine aw_ige rfl (fun c7 => absurd c7 (n_nle hk (by decide))) (fun c7 => ?_)
  refine aw rfl rfl ?_
  refine aw_getf rfl (by repeat first | assumption | exact hg_eq | refine hg_ne (by first | assumption | omega) ?_) rfl ?_
  refine aw rfl rfl ?_
  refine aw_iald (k := k) rfl (by repeat first | assumption | exact hg_eq | refine hg_ne (by first | assumption | omega) ?_) rfl hk (by decide) ?_
  refine aw rfl rfl ?_
  exact aw_iret rfl rfl q
theorem c_X7_stoneLie {h : am_H} {Q : Option Value → am_H → Prop} {p : Nat} {T : Sd} (hS : SA h p T) {a c f : Nat} (ha : T.2 6 0 = nI a) (hc : T.2 6 1 = nI c) (hf : T.2 6 2 = nI f) (q : Q (some (.int (nI ((c * 8 + a) * 3 + f)))) h) : AC am_P 1 21 87 [.ref p] h Q := by
  refine AC.of (ls := [_]) rfl ?_
  obtain ⟨s0, s1, s2, s3, s4, s5, s6, ⟨w, s7⟩, s8, s9, s13, s14⟩ := hS
  refine aw rfl rfl ?_
  refine aw_getf rfl (by repeat first | assumption | exact hg_eq | refine hg_ne (by first | assumption | omega) ?_) rfl ?_
  refine aw_c (v := nI 0) rfl (by decide) ?_
  refine aw_iald (k := 0) rfl (by repeat first | assumption | exact hg_eq | refine hg_ne (by first | assumption | omega) ?_) rfl (by decide) (by decide) ?_
  refine aw rfl rfl ?_
  refine aw_getf rfl (by repeat first | assumption | exact hg_eq | refine hg_ne (by first | assumption | omega) ?_) rfl ?_
  refine aw_c (v := nI 1) rfl (by decide) ?_
  refine aw_iald (k := 1) rfl (by repeat first | assumption | exact hg_eq | refine hg_ne (by first | assumption | omega) ?_) rfl (by decide) (by decide) ?_
  rw [ha, hc]
  refine aw_cs (d1 := 0) (L1 := 0) rfl rfl (by decide) (by decide) (Nat.le_of_ble_eq_true rfl) (c_X10_squareOf ?_)
  refine aw rfl rfl ?_
  refine aw_getf rfl (by repeat first | assumption | exact hg_eq | refine hg_ne (by first | assumption | omega) ?_) rfl ?_
  refine aw_c (v := nI 2) rfl (by decide) ?_
  refine aw_iald (k := 2) rfl (by repeat first | assumption | exact hg_eq | refine hg_ne (by first | assumption | omega) ?_) rfl (by decide) (by decide) ?_
  rw [hf]
  refine aw_cs (d1 := 0) (L1 := 0) rfl rfl (by decide) (by decide) (Nat.le_of_ble_eq_true rfl) (c_X10_lieOf ?_)
  exact aw_iret rfl rfl q
theorem c_X7_friendLie {h : am_H} {Q : Option Value → am_H → Prop} {p : Nat} {T : Sd} (hS : SA h p T) {a c f : Nat} (ha : T.2 7 0 = nI a) (hc : T.2 7 1 = nI c) (hf : T.2 7 2 = nI f) (q : Q (some (.int (nI ((c * 8 + a) * 3 + f)))) h) : AC am_P 1 21 107 [.ref p] h Q := by
  refine AC.of (ls := [_]) rfl ?_
  obtain ⟨s0, s1, s2, s3, s4, s5, s6, ⟨w, s7⟩, s8, s9, s13, s14⟩ := hS
  refine aw rfl rfl ?_
  refine aw_getf rfl (by repeat first | assumption | exact hg_eq | refine hg_ne (by first | assumption | omega) ?_) rfl ?_
  refine aw_c (v := nI 0) rfl (by decide) ?_
  refine aw_iald (k := 0) rfl (by repeat first | assumption | exact hg_eq | refine hg_ne (by first | assumption | omega) ?_) rfl (by decide) (by decide) ?_
  refine aw rfl rfl ?_
  refine aw_getf rfl (by repeat first | assumption | exact hg_eq | refine hg_ne (by first | assumption | omega) ?_) rfl ?_
  refine aw_c (v := nI 1) rfl (by decide) ?_
  refine aw_iald (k := 1) rfl (by repeat first | assumption | exact hg_eq | refine hg_ne (by first | assumption | omega) ?_) rfl (by decide) (by decide) ?_
  rw [ha, hc]
  refine aw_cs (d1 := 0) (L1 := 0) rfl rfl (by decide) (by decide) (Nat.le_of_ble_eq_true rfl) (c_X10_squareOf ?_)
  refine aw rfl rfl ?_
  refine aw_getf rfl (by repeat first | assumption | exact hg_eq | refine hg_ne (by first | assumption | omega) ?_) rfl ?_
  refine aw_c (v := nI 2) rfl (by decide) ?_
  refine aw_iald (k := 2) rfl (by repeat first | assumption | exact hg_eq | refine hg_ne (by first | assumption | omega) ?_) rfl (by decide) (by decide) ?_
  rw [hf]
  refine aw_cs (d1 := 0) (L1 := 0) rfl rfl (by decide) (by decide) (Nat.le_of_ble_eq_true rfl) (c_X10_lieOf ?_)
  exact aw_iret rfl rfl q
def n_mix (h w : Int32) : Int32 := ((h ^^^ w) * nI 1103515245 + nI 12345) ^^^ ((((h ^^^ w) * nI 1103515245 + nI 12345).toUInt32 >>> ((nI 15).toUInt32 &&& Int32.toUInt32 31)).toInt32)
theorem c_X7_mix {h : am_H} {Q : Option Value → am_H → Prop} {x y : Int32} (q : Q (some (.int (n_mix x y))) h) : AC am_P 0 0 100 [.int x, .int y] h Q := by
  refine AC.of (ls := [_, _, _]) rfl ?_
  refine aw rfl rfl ?_
  refine aw rfl rfl ?_
  refine aw rfl rfl ?_
  refine aw rfl rfl ?_
  refine aw rfl rfl ?_
  refine aw_c (v := nI 12345) rfl (by decide) ?_
  refine aw rfl rfl ?_
  refine aw_ist (ls' := [_, _, _]) rfl rfl ?_
  refine aw rfl rfl ?_
  refine aw rfl rfl ?_
  refine aw_c (v := nI 15) rfl (by decide) ?_
  refine aw rfl rfl ?_
  refine aw rfl rfl ?_
  exact aw_iret rfl rfl q
def n_lot (seed which : Int32) : Int32 := (((n_mix (n_mix seed (nI 55)) which).toUInt32 >>> ((nI 1).toUInt32 &&& Int32.toUInt32 31)).toInt32) - (((n_mix (n_mix seed (nI 55)) which).toUInt32 >>> ((nI 1).toUInt32 &&& Int32.toUInt32 31)).toInt32) / nI 6 * nI 6
theorem c_X7_lotOfSix {h : am_H} {Q : Option Value → am_H → Prop} {p : Nat} {T : Sd} (hS : SA h p T) {x : Int32} (q : Q (some (.int (n_lot (nI (T.1 6)) x))) h) : AC am_P 1 22 99 [.ref p, .int x] h Q := by
  refine AC.of (ls := [_, _, _]) rfl ?_
  obtain ⟨s0, s1, s2, s3, s4, s5, s6, ⟨w, s7⟩, s8, s9, s13, s14⟩ := hS
  refine aw rfl rfl ?_
  refine aw_getf rfl (by repeat first | assumption | exact hg_eq | refine hg_ne (by first | assumption | omega) ?_) rfl ?_
  refine aw_c (v := nI 55) rfl (by decide) ?_
  refine aw_cs (d1 := 0) (L1 := 0) rfl rfl (by decide) (by decide) (Nat.le_of_ble_eq_true rfl) (c_X7_mix ?_)
  refine aw rfl rfl ?_
  refine aw_cs (d1 := 0) (L1 := 0) rfl rfl (by decide) (by decide) (Nat.le_of_ble_eq_true rfl) (c_X7_mix ?_)
  refine aw_ist (ls' := [_, _, _]) rfl rfl ?_
  refine aw rfl rfl ?_
  refine aw_c (v := nI 1) rfl (by decide) ?_
  refine aw rfl rfl ?_
  refine aw_c (v := nI 6) rfl (by decide) ?_
  refine aw_irem rfl (by decide) ?_
  exact aw_iret rfl rfl q
end
section
/-! ===== rows over numbers that are no less than 0 ===== -/
section AWN
variable {d L M pc nx a b : Nat} {ls ls' : List (Option Value)} {st : List Value} {h : am_H} {Q : Option Value → am_H → Prop}
theorem aw_addn {x y : Nat} {r : List Value} (hf : am_at (am_P M).2.2.2 pc = some (.iadd, nx, a, b)) (k : AW am_P d L M nx ls (.int (nI (x + y)) :: r) h Q) : AW am_P d L M pc ls (.int (nI y) :: .int (nI x) :: r) h Q := by
  refine aw hf rfl ?_
  rw [nI_add]
  exact k
theorem aw_muln {x y : Nat} {r : List Value} (hf : am_at (am_P M).2.2.2 pc = some (.imul, nx, a, b)) (k : AW am_P d L M nx ls (.int (nI (x * y)) :: r) h Q) : AW am_P d L M pc ls (.int (nI y) :: .int (nI x) :: r) h Q := by
  refine aw hf rfl ?_
  rw [pk_mul]
  exact k
theorem aw_subn {x y : Nat} {r : List Value} (hf : am_at (am_P M).2.2.2 pc = some (.isub, nx, a, b)) (hy : y ≤ x) (k : AW am_P d L M nx ls (.int (nI (x - y)) :: r) h Q) : AW am_P d L M pc ls (.int (nI y) :: .int (nI x) :: r) h Q := by
  refine aw hf rfl ?_
  rw [pk_sub hy]
  exact k
theorem aw_divn {x y : Nat} {r : List Value} (hf : am_at (am_P M).2.2.2 pc = some (.idiv, nx, a, b)) (h0 : 0 < y) (hx : x < 2147483648) (hy : y < 2147483648) (k : AW am_P d L M nx ls (.int (nI (x / y)) :: r) h Q) : AW am_P d L M pc ls (.int (nI y) :: .int (nI x) :: r) h Q := by
  refine aw_idiv hf (nI_ne0 h0 hy) ?_
  rw [pk_div hx h0 hy]
  exact k
theorem aw_remn {x y : Nat} {r : List Value} (hf : am_at (am_P M).2.2.2 pc = some (.irem, nx, a, b)) (h0 : 0 < y) (hx : x < 2147483648) (hy : y < 2147483648) (k : AW am_P d L M nx ls (.int (nI (x % y)) :: r) h Q) : AW am_P d L M pc ls (.int (nI y) :: .int (nI x) :: r) h Q := by
  refine aw_irem hf (nI_ne0 h0 hy) ?_
  rw [pk_rem hx h0 hy]
  exact k
theorem aw_incn {j : Nat} {n : Int} {x c : Nat} (hf : am_at (am_P M).2.2.2 pc = some (.iinc j n, nx, a, b)) (hg : am_get ls a = some (.int (nI x))) (hc : Int32.ofInt n = nI c) (hl : am_st1 ls a (.int (nI (x + c))) = ls') (k : AW am_P d L M nx ls' st h Q) : AW am_P d L M pc ls st h Q := by
  refine aw_inc hf hg hc ?_ k
  rw [nI_add]
  exact hl
theorem aw_decn {j : Nat} {n : Int} {x c : Nat} (hf : am_at (am_P M).2.2.2 pc = some (.iinc j n, nx, a, b)) (hg : am_get ls a = some (.int (nI x))) (hc : Int32.ofInt n = - nI c) (hx : c ≤ x) (hl : am_st1 ls a (.int (nI (x - c))) = ls') (k : AW am_P d L M nx ls' st h Q) : AW am_P d L M pc ls st h Q := by
  refine aw_inc hf hg hc ?_ k
  rw [← Int32.sub_eq_add_neg, pk_sub hx]
  exact hl
theorem aw_ieqn {off : Int} {x y : Nat} {r : List Value} (hf : am_at (am_P M).2.2.2 pc = some (.if_icmp .eq off, nx, a, b)) (kt : x = y → AW am_P d L M a ls r h Q) (kf : ¬ x = y → AW am_P d L M nx ls r h Q) (hx : x < 2147483648 := by omega) (hy : y < 2147483648 := by omega) : AW am_P d L M pc ls (.int (nI y) :: .int (nI x) :: r) h Q := aw_ieq hf (fun z => kt ((nI_eq hx hy).mp z)) (fun z => kf (fun w => z ((nI_eq hx hy).mpr w)))
theorem aw_inen {off : Int} {x y : Nat} {r : List Value} (hf : am_at (am_P M).2.2.2 pc = some (.if_icmp .ne off, nx, a, b)) (kt : ¬ x = y → AW am_P d L M a ls r h Q) (kf : x = y → AW am_P d L M nx ls r h Q) (hx : x < 2147483648 := by omega) (hy : y < 2147483648 := by omega) : AW am_P d L M pc ls (.int (nI y) :: .int (nI x) :: r) h Q := aw_ine hf (fun z => kt (fun w => z ((nI_eq hx hy).mpr w))) (fun z => kf ((nI_eq hx hy).mp z))
theorem aw_iltn {off : Int} {x y : Nat} {r : List Value} (hf : am_at (am_P M).2.2.2 pc = some (.if_icmp .lt off, nx, a, b)) (kt : x < y → AW am_P d L M a ls r h Q) (kf : ¬ x < y → AW am_P d L M nx ls r h Q) (hx : x < 2147483648 := by omega) (hy : y < 2147483648 := by omega) : AW am_P d L M pc ls (.int (nI y) :: .int (nI x) :: r) h Q := aw_ilt hf (fun z => kt ((nI_ltI hx hy).mp z)) (fun z => kf (fun w => z ((nI_ltI hx hy).mpr w)))
theorem aw_igen {off : Int} {x y : Nat} {r : List Value} (hf : am_at (am_P M).2.2.2 pc = some (.if_icmp .ge off, nx, a, b)) (kt : y ≤ x → AW am_P d L M a ls r h Q) (kf : ¬ y ≤ x → AW am_P d L M nx ls r h Q) (hx : x < 2147483648 := by omega) (hy : y < 2147483648 := by omega) : AW am_P d L M pc ls (.int (nI y) :: .int (nI x) :: r) h Q := aw_ige hf (fun z => kt ((nI_leI hy hx).mp z)) (fun z => kf (fun w => z ((nI_leI hy hx).mpr w)))
theorem aw_igtn {off : Int} {x y : Nat} {r : List Value} (hf : am_at (am_P M).2.2.2 pc = some (.if_icmp .gt off, nx, a, b)) (kt : y < x → AW am_P d L M a ls r h Q) (kf : ¬ y < x → AW am_P d L M nx ls r h Q) (hx : x < 2147483648 := by omega) (hy : y < 2147483648 := by omega) : AW am_P d L M pc ls (.int (nI y) :: .int (nI x) :: r) h Q := aw_igt hf (fun z => kt ((nI_ltI hy hx).mp z)) (fun z => kf (fun w => z ((nI_ltI hy hx).mpr w)))
theorem aw_ilen {off : Int} {x y : Nat} {r : List Value} (hf : am_at (am_P M).2.2.2 pc = some (.if_icmp .le off, nx, a, b)) (kt : x ≤ y → AW am_P d L M a ls r h Q) (kf : ¬ x ≤ y → AW am_P d L M nx ls r h Q) (hx : x < 2147483648 := by omega) (hy : y < 2147483648 := by omega) : AW am_P d L M pc ls (.int (nI y) :: .int (nI x) :: r) h Q := aw_ile hf (fun z => kt ((nI_leI hx hy).mp z)) (fun z => kf (fun w => z ((nI_leI hx hy).mpr w)))
theorem aw_eqn {off : Int} {x : Nat} {r : List Value} (hf : am_at (am_P M).2.2.2 pc = some (.ifCond .eq off, nx, a, b)) (kt : x = 0 → AW am_P d L M a ls r h Q) (kf : ¬ x = 0 → AW am_P d L M nx ls r h Q) (hx : x < 2147483648 := by omega) : AW am_P d L M pc ls (.int (nI x) :: r) h Q := aw_eq hf (fun z => kt ((nI_eq hx (by decide)).mp z)) (fun z => kf (fun w => z ((nI_eq (b := 0) hx (by decide)).mpr w)))
theorem aw_nen {off : Int} {x : Nat} {r : List Value} (hf : am_at (am_P M).2.2.2 pc = some (.ifCond .ne off, nx, a, b)) (kt : ¬ x = 0 → AW am_P d L M a ls r h Q) (kf : x = 0 → AW am_P d L M nx ls r h Q) (hx : x < 2147483648 := by omega) : AW am_P d L M pc ls (.int (nI x) :: r) h Q := aw_ne hf (fun z => kt (fun w => z ((nI_eq (b := 0) hx (by decide)).mpr w))) (fun z => kf ((nI_eq hx (by decide)).mp z))
theorem aw_gtn {off : Int} {x : Nat} {r : List Value} (hf : am_at (am_P M).2.2.2 pc = some (.ifCond .gt off, nx, a, b)) (kt : 0 < x → AW am_P d L M a ls r h Q) (kf : x = 0 → AW am_P d L M nx ls r h Q) (hx : x < 2147483648 := by omega) : AW am_P d L M pc ls (.int (nI x) :: r) h Q := aw_gt hf (fun z => kt ((nI_ltI (a := 0) (by decide) hx).mp z)) (fun z => kf (Nat.eq_zero_of_not_pos (fun w => z ((nI_ltI (a := 0) (by decide) hx).mpr w))))
theorem aw_len {off : Int} {x : Nat} {r : List Value} (hf : am_at (am_P M).2.2.2 pc = some (.ifCond .le off, nx, a, b)) (kt : x = 0 → AW am_P d L M a ls r h Q) (kf : 0 < x → AW am_P d L M nx ls r h Q) (hx : x < 2147483648 := by omega) : AW am_P d L M pc ls (.int (nI x) :: r) h Q := aw_le hf (fun z => kt (Nat.le_zero.mp ((nI_leI (b := 0) hx (by decide)).mp z))) (fun z => kf (Nat.pos_of_ne_zero (fun w => z ((nI_leI (b := 0) hx (by decide)).mpr (Nat.le_of_eq w)))))
theorem aw_ltn {off : Int} {x : Nat} {r : List Value} (hf : am_at (am_P M).2.2.2 pc = some (.ifCond .lt off, nx, a, b)) (kf : AW am_P d L M nx ls r h Q) (hx : x < 2147483648 := by omega) : AW am_P d L M pc ls (.int (nI x) :: r) h Q := aw_lt hf (fun z => absurd z (nI_pos hx)) (fun _ => kf)
theorem aw_gen {off : Int} {x : Nat} {r : List Value} (hf : am_at (am_P M).2.2.2 pc = some (.ifCond .ge off, nx, a, b)) (kt : AW am_P d L M a ls r h Q) (hx : x < 2147483648 := by omega) : AW am_P d L M pc ls (.int (nI x) :: r) h Q := aw_ge hf (fun _ => kt) (fun z => absurd (Int32.not_lt.mp (nI_pos hx)) z)
/-- x is no less than 0 there, or the whole is refused -/
theorem aw_ltx {off : Int} {x : Int32} {r : List Value} (hf : am_at (am_P M).2.2.2 pc = some (.ifCond .lt off, nx, a, b)) (kt : x < 0 → AW am_P d L M a ls r h Q) (kf : ∀ j : Nat, j < 2147483648 → x = nI j → AW am_P d L M nx ls r h Q) : AW am_P d L M pc ls (.int x :: r) h Q := aw_lt hf kt (fun z => by obtain ⟨j, hj, e⟩ := nI_of z; exact kf j hj e)
/-- minus one -/
theorem aw_ieqm {off : Int} {x : Nat} {r : List Value} (hf : am_at (am_P M).2.2.2 pc = some (.if_icmp .eq off, nx, a, b)) (kf : AW am_P d L M nx ls r h Q) (hx : x < 2147483648 := by omega) : AW am_P d L M pc ls (.int (-1) :: .int (nI x) :: r) h Q := aw_ieq hf (fun z => absurd z (n_m1 hx)) (fun _ => kf)
theorem aw_inem {off : Int} {x : Nat} {r : List Value} (hf : am_at (am_P M).2.2.2 pc = some (.if_icmp .ne off, nx, a, b)) (kt : AW am_P d L M a ls r h Q) (hx : x < 2147483648 := by omega) : AW am_P d L M pc ls (.int (-1) :: .int (nI x) :: r) h Q := aw_ine hf (fun _ => kt) (fun z => absurd z (n_m1 hx))
/-- a loop: from its head it comes back to its head with one turn less to go, or ends -/
theorem aw_loop {α : Type} {ll : Nat → α → List (Option Value)} {hh : Nat → α → am_H} {I : Nat → α → Prop} {N : Nat} (hs : ∀ k x, k < N → I k x → (∀ y, I (k + 1) y → AW am_P d L M pc (ll (k + 1) y) [] (hh (k + 1) y) Q) → AW am_P d L M pc (ll k x) [] (hh k x) Q) (he : ∀ x, I N x → AW am_P d L M pc (ll N x) [] (hh N x) Q) : ∀ k x, k ≤ N → I k x → AW am_P d L M pc (ll k x) [] (hh k x) Q := by
  have g : ∀ m k x, N - k = m → k ≤ N → I k x → AW am_P d L M pc (ll k x) [] (hh k x) Q := by
    intro m
    induction m with
    | zero =>
      intro k x hm hk hi
      have e : k = N := by omega
      subst e
      exact he x hi
    | succ m ih =>
      intro k x hm hk hi
      exact hs k x (by omega) hi (fun y hy => ih (k + 1) y (by omega) (by omega) hy)
  intro k x hk hi
  exact g _ k x rfl hk hi
end AWN
end
section
/-! ===== Street: cars, landings ===== -/
/-- the laws as functions of the seven facts *-/
abbrev LWt : Type := Nat → Int32 → Int32 → Int32 → Int32 → Int32 → Int32 → Int32 → Int32
def LWs (T : Sd) (LW : LWt) : Prop := T.1 7 ≤ 400 ∧ (∀ k, k < 3 → T.2 9 k < nI 300000000) ∧ ∀ k, k < 3 → ∀ g sk, (n_val (T.2 8) (T.2 9) g (T.1 7) k sk).1 = LW k (g 0) (g 1) (g 2) (g 3) (g 4) (g 5) (g 6)
theorem SA.upd {h : am_H} {p q : Nat} {T : Sd} {c : am_C} (hS : SA h p T) (h1 : ¬ (p ≤ q ∧ q ≤ p + 9)) (h2 : q ≠ p + 13) (h3 : q ≠ p + 14) : SA (am_up h q c) p T := by
  obtain ⟨s0, s1, s2, s3, s4, s5, s6, ⟨w, s7⟩, s8, s9, s13, s14⟩ := hS
  exact ⟨hg_ne (by omega) s0, hg_ne (by omega) s1, hg_ne (by omega) s2, hg_ne (by omega) s3, hg_ne (by omega) s4, hg_ne (by omega) s5, hg_ne (by omega) s6, ⟨w, hg_ne (by omega) s7⟩, hg_ne (by omega) s8, hg_ne (by omega) s9, hg_ne (by omega) s13, hg_ne (by omega) s14⟩
theorem c_val {h : am_H} {Q : Option Value → am_H → Prop} {p k : Nat} {T : Sd} {LW : LWt} {f : Nat → Int32} (h8 : 8 ≤ p) (hS : SA h p T) (hf : h.2.2 (p + 11) = am_ints 7 f) (hX : ∃ f, h.2.2 (p + 12) = am_ints 32 f) (hW : LWs T LW) (hk : k < 3) (q : ∀ sk, Q (some (.int (LW k (f 0) (f 1) (f 2) (f 3) (f 4) (f 5) (f 6)))) (am_up h (p + 12) (am_ints 32 sk))) : AC am_P 1 22 24 [.ref (p + 7), .int (nI k)] h Q := by
  obtain ⟨s0, s1, s2, s3, s4, s5, s6, ⟨w, s7⟩, s8, s9, s13, s14⟩ := hS
  obtain ⟨sk, hk0⟩ := hX
  refine c_X1_value h8 s7 s8 s9 hf hk0 hk hW.1 (hW.2.1 k hk) ?_
  rw [hW.2.2 k hk]
  exact q _
abbrev n_car (T : Sd) (LW : LWt) (s : Nat) (x : Int32) : Prop := 0 < LW 2 (nI (s % 8)) (nI (s / 8)) (nI 0) (T.2 0 s) (-1) (nI 0) x
theorem c_X7_carsCome {h : am_H} {Q : Option Value → am_H → Prop} {p : Nat} {T : Sd} {LW : LWt} (h8 : 8 ≤ p) (hS : SA h p T) (hX : SX h p) (hW : LWs T LW) {s : Nat} {x : Int32} (hs : s < 32) (q1 : ∀ h1, FX p h h1 → n_car T LW s x → Q (some (.int (nI 1))) h1) (q0 : ∀ h1, FX p h h1 → ¬ n_car T LW s x → Q (some (.int (nI 0))) h1) : AC am_P 2 48 95 [.ref p, .int (nI s), .int x] h Q := by
  refine AC.of (ls := [_, _, _]) rfl ?_
  have hS0 := hS
  obtain ⟨s0, s1, s2, s3, s4, s5, s6, ⟨w, s7⟩, s8, s9, s13, s14⟩ := hS
  obtain ⟨⟨f, hf⟩, hk0⟩ := hX
  refine aw rfl rfl ?_
  refine aw_getf rfl (by repeat first | assumption | exact hg_eq | refine hg_ne (by first | assumption | omega) ?_) rfl ?_
  refine aw rfl rfl ?_
  refine aw_cs (d1 := 0) (L1 := 0) rfl rfl (by decide) (by decide) (Nat.le_of_ble_eq_true rfl) (c_X10_alongOf (by omega) ?_)
  refine aw rfl rfl ?_
  refine aw_cs (d1 := 0) (L1 := 0) rfl rfl (by decide) (by decide) (Nat.le_of_ble_eq_true rfl) (c_X10_acrossOf (by omega) ?_)
  refine aw_c (v := nI 0) rfl (by decide) ?_
  refine aw rfl rfl ?_
  refine aw rfl rfl ?_
  refine aw_cv (d1 := 0) (L1 := 0) rfl rfl (by repeat first | assumption | exact hg_eq | refine hg_ne (by first | assumption | omega) ?_) rfl rfl (by decide) (by decide) (Nat.le_of_ble_eq_true rfl) (c_X7_sortOf hS0 hs ?_)
  refine aw_cv (d1 := 0) (L1 := 0) rfl rfl (by repeat first | assumption | exact hg_eq | refine hg_ne (by first | assumption | omega) ?_) rfl rfl (by decide) (by decide) (Nat.le_of_ble_eq_true rfl) (c_X1_setWhere h8 s7 hf ?_)
  refine aw rfl rfl ?_
  refine aw_getf rfl (by repeat first | assumption | exact hg_eq | refine hg_ne (by first | assumption | omega) ?_) rfl ?_
  refine aw_c (v := -1) rfl (by decide) ?_
  refine aw_c (v := nI 0) rfl (by decide) ?_
  refine aw rfl rfl ?_
  refine aw_cv (d1 := 0) (L1 := 0) rfl rfl (by repeat first | assumption | exact hg_eq | refine hg_ne (by first | assumption | omega) ?_) rfl rfl (by decide) (by decide) (Nat.le_of_ble_eq_true rfl) (c_X1_setHow h8 (by repeat first | assumption | exact hg_eq | refine hg_ne (by first | assumption | omega) ?_) (by repeat first | assumption | exact hg_eq | refine hg_ne (by first | assumption | omega) ?_) ?_)
  rw [am_up_up]
  refine aw rfl rfl ?_
  refine aw_getf rfl (by repeat first | assumption | exact hg_eq | refine hg_ne (by first | assumption | omega) ?_) rfl ?_
  refine aw_c (v := nI 2) rfl (by decide) ?_
  refine aw_cv (d1 := 1) (L1 := 22) rfl rfl (by repeat first | assumption | exact hg_eq | refine hg_ne (by first | assumption | omega) ?_) rfl rfl (by decide) (by decide) (Nat.le_of_ble_eq_true rfl) (c_val h8 (hS0.upd (by omega) (by omega) (by omega)) (by repeat first | assumption | exact hg_eq | refine hg_ne (by first | assumption | omega) ?_) (by obtain ⟨g, hg⟩ := hk0; exact ⟨g, hg_ne (by omega) hg⟩) hW (by decide) (fun sk => ?_))
  refine aw_le rfl (fun c39 => ?_) (fun c39 => ?_)
  · refine aw_c (v := nI 0) rfl (by decide) ?_
    exact aw_iret rfl rfl (q0 _ ⟨_, _, rfl⟩ (Int32.not_lt.mpr c39))
  · refine aw_c (v := nI 1) rfl (by decide) ?_
    refine aw rfl rfl ?_
    exact aw_iret rfl rfl (q1 _ ⟨_, _, rfl⟩ (Int32.not_le.mp c39))
def n_lw (T : Sd) (LW : LWt) (k l way : Nat) (x : Int32) : Int32 := LW k (nI (l / 3 % 8)) (nI (l / 3 / 8)) (nI (l % 3)) (T.2 0 (l / 3)) (nI (way / 6)) (T.2 3 way) x
def n_a1 (T : Sd) (LW : LWt) (l way : Nat) (x : Int32) : Int32 := nI (l / 3 % 8) + T.2 3 way + n_held (n_lw T LW 1 l way x) (nI 4)
def n_c1 (T : Sd) (LW : LWt) (l way : Nat) (x : Int32) : Int32 := nI (l / 3 / 8) + T.2 4 way + n_held (n_lw T LW 0 l way x) (nI 2)
def n_a2 (T : Sd) (LW : LWt) (l way : Nat) (x : Int32) : Int32 := if nI 0 < (if n_a1 T LW l way x < nI (T.1 0) - nI 1 then n_a1 T LW l way x else nI (T.1 0) - nI 1) then (if n_a1 T LW l way x < nI (T.1 0) - nI 1 then n_a1 T LW l way x else nI (T.1 0) - nI 1) else nI 0
def n_tn (T : Sd) (l way : Nat) : Nat := (l % 3 + (T.2 5 way).toNatClampNeg) % T.1 2
def n_lnd (T : Sd) (LW : LWt) (l : Nat) (x A C : Int32) (tn : Nat) : Int32 := if C < 0 ∨ nI 4 ≤ C then -1 else if T.2 0 (C.toNatClampNeg * 8 + A.toNatClampNeg) = nI 5 then nI (l / 3 * 3 + tn) else if T.2 0 (C.toNatClampNeg * 8 + A.toNatClampNeg) = -1 ∨ T.2 0 (C.toNatClampNeg * 8 + A.toNatClampNeg) = nI 4 then -1 else if ¬ T.2 0 (C.toNatClampNeg * 8 + A.toNatClampNeg) = nI 6 ∧ n_car T LW (C.toNatClampNeg * 8 + A.toNatClampNeg) (x + nI (T.1 5)) then -1 else nI ((C.toNatClampNeg * 8 + A.toNatClampNeg) * 3 + tn)
/-- how it lies behind what is done: the lie, or -1 if it is lost *-/
def n_land (T : Sd) (LW : LWt) (l way : Nat) (x : Int32) : Int32 := if way = 24 then (if n_car T LW (l / 3) (x + nI (T.1 5)) then -1 else nI l) else n_lnd T LW l x (n_a2 T LW l way x) (n_c1 T LW l way x) (n_tn T l way)
theorem n_a2_in {T : Sd} {LW : LWt} {l way : Nat} {x : Int32} (h1 : 1 ≤ T.1 0) (h2 : T.1 0 ≤ 8) : ∃ a : Nat, a < T.1 0 ∧ n_a2 T LW l way x = nI a := by
  unfold n_a2
  have e : nI (T.1 0) - nI 1 = nI (T.1 0 - 1) := pk_sub h1
  rw [e]
  generalize n_a1 T LW l way x = y
  by_cases hy : y < nI (T.1 0 - 1)
  · rw [if_pos hy]
    by_cases h0 : nI 0 < y
    · rw [if_pos h0]
      obtain ⟨j, hj, ej⟩ := nI_of (Int32.not_lt.mpr (Int32.le_of_lt (show (0 : Int32) < y from h0)))
      refine ⟨j, ?_, ej⟩
      rw [ej] at hy
      have := (nI_ltI hj (by omega)).mp hy
      omega
    · rw [if_neg h0]
      exact ⟨0, by omega, rfl⟩
  · rw [if_neg hy]
    by_cases h0 : nI 0 < nI (T.1 0 - 1)
    · rw [if_pos h0]
      exact ⟨T.1 0 - 1, by omega, rfl⟩
    · rw [if_neg h0]
      exact ⟨0, by omega, rfl⟩
theorem c_sortAt1 {h : am_H} {Q : Option Value → am_H → Prop} {p : Nat} {T : Sd} (hS : SA h p T) {a : Nat} {y : Int32} (ha : a < 8) (q1 : ∀ c : Nat, y = nI c → c < 4 → Q (some (.int (T.2 0 (c * 8 + a)))) h) (q0 : (y < 0 ∨ nI 4 ≤ y) → Q (some (.int (-1))) h) : AC am_P 0 0 94 [.ref p, .int (nI a), .int y] h Q := by
  refine c_X7_sortAt hS (fun a' c ea ec h1 h2 => ?_) (fun z => ?_)
  · have e := (nI_eq (a := a) (b := a') (by omega) (by omega)).mp ea
    subst e
    exact q1 c ec h2
  · exact q0 (z.elim (fun z => absurd z (n_neg a (by omega))) (fun z => z.elim (fun z => absurd z (n_nle ha (by decide))) id))
theorem n_land_w {T : Sd} {LW : LWt} {l way : Nat} {x : Int32} (hw : way = 24) : n_land T LW l way x = if n_car T LW (l / 3) (x + nI (T.1 5)) then -1 else nI l := by
  unfold n_land
  rw [if_pos hw]
/-- what comes of a kick, case by case *-/
theorem n_land_k {T : Sd} {LW : LWt} {l way a c : Nat} {x : Int32} (hw : ¬ way = 24) (hA : n_a2 T LW l way x = nI a) (hC : n_c1 T LW l way x = nI c) (ha : a < 8) (hc : c < 4) : n_land T LW l way x = if T.2 0 (c * 8 + a) = nI 5 then nI (l / 3 * 3 + n_tn T l way) else if T.2 0 (c * 8 + a) = -1 ∨ T.2 0 (c * 8 + a) = nI 4 then -1 else if ¬ T.2 0 (c * 8 + a) = nI 6 ∧ n_car T LW (c * 8 + a) (x + nI (T.1 5)) then -1 else nI ((c * 8 + a) * 3 + n_tn T l way) := by
  unfold n_land n_lnd
  rw [if_neg hw, hA, hC, if_neg (fun z => z.elim (n_neg c (by omega)) (n_nle hc (by decide))), nI_clamp (show c < 2147483648 by omega), nI_clamp (show a < 2147483648 by omega)]
theorem n_land_o {T : Sd} {LW : LWt} {l way : Nat} {x : Int32} (hw : ¬ way = 24) (hC : n_c1 T LW l way x < 0 ∨ nI 4 ≤ n_c1 T LW l way x) : n_land T LW l way x = -1 := by
  unfold n_land n_lnd
  rw [if_neg hw, if_pos hC]
theorem c_X7_landing {h : am_H} {Q : Option Value → am_H → Prop} {p : Nat} {T : Sd} {LW : LWt} (h8 : 8 ≤ p) (hS : SA h p T) (hX : SX h p) (hW : LWs T LW) {l way : Nat} {x : Int32} (hl : l < 96) (hw : way ≤ 24) (hlen : 1 ≤ T.1 0 ∧ T.1 0 ≤ 8) (hfc : 1 ≤ T.1 2 ∧ T.1 2 ≤ 3) (htn : way < 24 → ∃ tw : Nat, tw < 10000 ∧ T.2 5 way = nI tw) (q : ∀ h1, FX p h h1 → Q (some (.int (n_land T LW l way x))) h1) : AC am_P 3 70 104 [.ref p, .int (nI l), .int (nI way), .int x] h Q := by
  refine AC.of (ls := [_, _, _, _, _, _, _, _, _, _, _]) rfl ?_
  have hS0 := hS
  have hX0 := hX
  obtain ⟨s0, s1, s2, s3, s4, s5, s6, ⟨w, s7⟩, s8, s9, s13, s14⟩ := hS
  obtain ⟨⟨f, hf⟩, hk0⟩ := hX
  refine aw rfl rfl ?_
  refine aw_c (v := nI 3) rfl (by decide) ?_
  refine aw_divn rfl (by omega) (by omega) (by omega) ?_
  refine aw_ist (ls' := [_, _, _, _, _, _, _, _, _, _, _]) rfl rfl ?_
  refine aw rfl rfl ?_
  refine aw_c (v := nI 24) rfl (by decide) ?_
  refine aw_inen rfl (fun c8 => ?_) (fun c8 => ?_)
  · have hw24 : ¬ way = 24 := by omega
    obtain ⟨tw, htw, etw⟩ := htn (by omega)
    refine aw rfl rfl ?_
    refine aw_ltn rfl ?_
    refine aw rfl rfl ?_
    refine aw_c (v := nI 24) rfl (by decide) ?_
    refine aw_igen rfl (fun c39 => by omega) (fun c39 => ?_)
    refine aw rfl rfl ?_
    refine aw_getf rfl (by repeat first | assumption | exact hg_eq | refine hg_ne (by first | assumption | omega) ?_) rfl ?_
    refine aw_c (v := nI 1) rfl (by decide) ?_
    refine aw_igen rfl (fun c47 => ?_) (fun c47 => by omega)
    refine aw rfl rfl ?_
    refine aw_c (v := nI 3) rfl (by decide) ?_
    refine aw_remn rfl (by omega) (by omega) (by omega) ?_
    refine aw_ist (ls' := [_, _, _, _, _, _, _, _, _, _, _]) rfl rfl ?_
    refine aw rfl rfl ?_
    refine aw_getf rfl (by repeat first | assumption | exact hg_eq | refine hg_ne (by first | assumption | omega) ?_) rfl ?_
    refine aw rfl rfl ?_
    refine aw_cs (d1 := 0) (L1 := 0) rfl rfl (by decide) (by decide) (Nat.le_of_ble_eq_true rfl) (c_X10_alongOf (by omega) ?_)
    refine aw rfl rfl ?_
    refine aw_cs (d1 := 0) (L1 := 0) rfl rfl (by decide) (by decide) (Nat.le_of_ble_eq_true rfl) (c_X10_acrossOf (by omega) ?_)
    refine aw rfl rfl ?_
    refine aw rfl rfl ?_
    refine aw rfl rfl ?_
    refine aw_cv (d1 := 0) (L1 := 0) rfl rfl (by repeat first | assumption | exact hg_eq | refine hg_ne (by first | assumption | omega) ?_) rfl rfl (by decide) (by decide) (Nat.le_of_ble_eq_true rfl) (c_X7_sortOf hS0 (by omega) ?_)
    refine aw_cv (d1 := 0) (L1 := 0) rfl rfl (by repeat first | assumption | exact hg_eq | refine hg_ne (by first | assumption | omega) ?_) rfl rfl (by decide) (by decide) (Nat.le_of_ble_eq_true rfl) (c_X1_setWhere h8 s7 hf ?_)
    refine aw rfl rfl ?_
    refine aw_getf rfl (by repeat first | assumption | exact hg_eq | refine hg_ne (by first | assumption | omega) ?_) rfl ?_
    refine aw rfl rfl ?_
    refine aw_c (v := nI 6) rfl (by decide) ?_
    refine aw_divn rfl (by omega) (by omega) (by omega) ?_
    refine aw rfl rfl ?_
    refine aw_getf rfl (by repeat first | assumption | exact hg_eq | refine hg_ne (by first | assumption | omega) ?_) rfl ?_
    refine aw rfl rfl ?_
    refine aw_iald rfl (by repeat first | assumption | exact hg_eq | refine hg_ne (by first | assumption | omega) ?_) rfl (by omega) (by decide) ?_
    refine aw rfl rfl ?_
    refine aw_cv (d1 := 0) (L1 := 0) rfl rfl (by repeat first | assumption | exact hg_eq | refine hg_ne (by first | assumption | omega) ?_) rfl rfl (by decide) (by decide) (Nat.le_of_ble_eq_true rfl) (c_X1_setHow h8 (by repeat first | assumption | exact hg_eq | refine hg_ne (by first | assumption | omega) ?_) (by repeat first | assumption | exact hg_eq | refine hg_ne (by first | assumption | omega) ?_) ?_)
    rw [am_up_up]
    refine aw rfl rfl ?_
    refine aw_cs (d1 := 0) (L1 := 0) rfl rfl (by decide) (by decide) (Nat.le_of_ble_eq_true rfl) (c_X10_alongOf (by omega) ?_)
    refine aw rfl rfl ?_
    refine aw_getf rfl (by repeat first | assumption | exact hg_eq | refine hg_ne (by first | assumption | omega) ?_) rfl ?_
    refine aw rfl rfl ?_
    refine aw_iald rfl (by repeat first | assumption | exact hg_eq | refine hg_ne (by first | assumption | omega) ?_) rfl (by omega) (by decide) ?_
    refine aw rfl rfl ?_
    refine aw rfl rfl ?_
    refine aw_getf rfl (by repeat first | assumption | exact hg_eq | refine hg_ne (by first | assumption | omega) ?_) rfl ?_
    refine aw_c (v := nI 1) rfl (by decide) ?_
    refine aw_cv (d1 := 1) (L1 := 22) rfl rfl (by repeat first | assumption | exact hg_eq | refine hg_ne (by first | assumption | omega) ?_) rfl rfl (by decide) (by decide) (Nat.le_of_ble_eq_true rfl) (c_val h8 (hS0.upd (by omega) (by omega) (by omega)) (by repeat first | assumption | exact hg_eq | refine hg_ne (by first | assumption | omega) ?_) (by obtain ⟨g, hg⟩ := hk0; exact ⟨g, hg_ne (by omega) hg⟩) hW (by decide) (fun sk => ?_))
    refine aw_c (v := nI 4) rfl (by decide) ?_
    refine aw_cs (d1 := 1) (L1 := 19) rfl rfl (by decide) (by decide) (Nat.le_of_ble_eq_true rfl) (c_X10_held ?_)
    refine aw rfl rfl ?_
    refine aw_ist (ls' := [_, _, _, _, _, _, _, _, _, _, _]) rfl rfl ?_
    refine aw rfl rfl ?_
    refine aw_cs (d1 := 0) (L1 := 0) rfl rfl (by decide) (by decide) (Nat.le_of_ble_eq_true rfl) (c_X10_acrossOf (by omega) ?_)
    refine aw rfl rfl ?_
    refine aw_getf rfl (by repeat first | assumption | exact hg_eq | refine hg_ne (by first | assumption | omega) ?_) rfl ?_
    refine aw rfl rfl ?_
    refine aw_iald rfl (by repeat first | assumption | exact hg_eq | refine hg_ne (by first | assumption | omega) ?_) rfl (by omega) (by decide) ?_
    refine aw rfl rfl ?_
    refine aw rfl rfl ?_
    refine aw_getf rfl (by repeat first | assumption | exact hg_eq | refine hg_ne (by first | assumption | omega) ?_) rfl ?_
    refine aw_c (v := nI 0) rfl (by decide) ?_
    refine aw_cv (d1 := 1) (L1 := 22) rfl rfl (by repeat first | assumption | exact hg_eq | refine hg_ne (by first | assumption | omega) ?_) rfl rfl (by decide) (by decide) (Nat.le_of_ble_eq_true rfl) (c_val h8 ((hS0.upd (by omega) (by omega) (by omega)).upd (by omega) (by omega) (by omega)) (by repeat first | assumption | exact hg_eq | refine hg_ne (by first | assumption | omega) ?_) ⟨_, hg_eq⟩ hW (by decide) (fun sk2 => ?_))
    refine aw_c (v := nI 2) rfl (by decide) ?_
    refine aw_cs (d1 := 1) (L1 := 19) rfl rfl (by decide) (by decide) (Nat.le_of_ble_eq_true rfl) (c_X10_held ?_)
    rw [am_up_up]
    refine aw rfl rfl ?_
    refine aw_ist (ls' := [_, _, _, _, _, _, _, _, _, _, _]) rfl rfl ?_
    refine aw rfl rfl ?_
    refine aw rfl rfl ?_
    refine aw_getf rfl (by repeat first | assumption | exact hg_eq | refine hg_ne (by first | assumption | omega) ?_) rfl ?_
    refine aw rfl rfl ?_
    refine aw_iald rfl (by repeat first | assumption | exact hg_eq | refine hg_ne (by first | assumption | omega) ?_) rfl (by omega) (by decide) ?_
    rw [etw]
    refine aw_addn rfl ?_
    refine aw rfl rfl ?_
    refine aw_getf rfl (by repeat first | assumption | exact hg_eq | refine hg_ne (by first | assumption | omega) ?_) rfl ?_
    refine aw_remn rfl (by omega) (by omega) (by omega) ?_
    refine aw_ist (ls' := [_, _, _, _, _, _, _, _, _, _, _]) rfl rfl ?_
    refine aw_c (v := nI 0) rfl (by decide) ?_
    refine aw rfl rfl ?_
    refine aw_getf rfl (by repeat first | assumption | exact hg_eq | refine hg_ne (by first | assumption | omega) ?_) rfl ?_
    refine aw_c (v := nI 1) rfl (by decide) ?_
    refine aw rfl rfl ?_
    refine aw rfl rfl ?_
    refine aw rfl rfl ?_
    refine aw rfl rfl ?_
    refine aw_ist (ls' := [_, _, _, _, _, _, _, _, _, _, _]) rfl rfl ?_
    show AW am_P 3 70 104 187 [_, _, _, _, _, _, some (.int (n_a2 T LW l way x)), some (.int (n_c1 T LW l way x)), _, _, _] [] _ Q
    obtain ⟨a, ha, ea⟩ := n_a2_in (T := T) (LW := LW) (l := l) (way := way) (x := x) hlen.1 hlen.2
    have etn : n_tn T l way = (l % 3 + tw) % T.1 2 := by unfold n_tn; rw [etw, nI_clamp (by omega)]
    generalize hA2 : n_a2 T LW l way x = A2 at ea ⊢
    generalize hC1 : n_c1 T LW l way x = C1
    subst ea
    rw [← etn]
    refine aw rfl rfl ?_
    refine aw rfl rfl ?_
    refine aw rfl rfl ?_
    refine aw_cv (d1 := 0) (L1 := 0) rfl rfl (by repeat first | assumption | exact hg_eq | refine hg_ne (by first | assumption | omega) ?_) rfl rfl (by decide) (by decide) (Nat.le_of_ble_eq_true rfl) (c_sortAt1 ((hS0.upd (by omega) (by omega) (by omega)).upd (by omega) (by omega) (by omega)) (by omega) (fun c ec hc => ?_) (fun z => ?_))
    · try subst ec
      refine aw_ist (ls' := [_, _, _, _, _, _, _, _, _, _, _]) rfl rfl ?_
      refine aw rfl rfl ?_
      refine aw_c (v := nI 5) rfl (by decide) ?_
      refine aw_ine rfl (fun c200 => ?_) (fun c200 => ?_)
      · refine aw rfl rfl ?_
        refine aw_c (v := -1) rfl (by decide) ?_
        refine aw_ieq rfl (fun c214 => ?_) (fun c214 => ?_)
        · refine aw_c (v := -1) rfl (by decide) ?_
          exact aw_iret rfl rfl (Eq.mp (congrArg (fun v => Q (some (.int v)) _) (by rw [n_land_k hw24 hA2 hC1 (by omega) hc, if_neg c200, if_pos (Or.inl c214)])) (q _ ⟨_, _, rfl⟩))
        · refine aw rfl rfl ?_
          refine aw_c (v := nI 4) rfl (by decide) ?_
          refine aw_ine rfl (fun c220 => ?_) (fun c220 => ?_)
          · refine aw rfl rfl ?_
            refine aw rfl rfl ?_
            refine aw_cs (d1 := 0) (L1 := 0) rfl rfl (by decide) (by decide) (Nat.le_of_ble_eq_true rfl) (c_X10_squareOf ?_)
            refine aw_ist (ls' := [_, _, _, _, _, _, _, _, _, _, _]) rfl rfl ?_
            refine aw rfl rfl ?_
            refine aw_c (v := nI 6) rfl (by decide) ?_
            refine aw_ieq rfl (fun c238 => ?_) (fun c238 => ?_)
            · refine aw rfl rfl ?_
              refine aw rfl rfl ?_
              refine aw_cs (d1 := 0) (L1 := 0) rfl rfl (by decide) (by decide) (Nat.le_of_ble_eq_true rfl) (c_X10_lieOf ?_)
              exact aw_iret rfl rfl (Eq.mp (congrArg (fun v => Q (some (.int v)) _) (by rw [n_land_k hw24 hA2 hC1 (by omega) hc, if_neg c200, if_neg (fun z => z.elim c214 c220), if_neg (fun z => z.1 c238)])) (q _ ⟨_, _, rfl⟩))
            · refine aw rfl rfl ?_
              refine aw rfl rfl ?_
              refine aw rfl rfl ?_
              refine aw rfl rfl ?_
              refine aw_getf rfl (by repeat first | assumption | exact hg_eq | refine hg_ne (by first | assumption | omega) ?_) rfl ?_
              refine aw rfl rfl ?_
              refine aw_cv (d1 := 2) (L1 := 48) rfl rfl (by repeat first | assumption | exact hg_eq | refine hg_ne (by first | assumption | omega) ?_) rfl rfl (by decide) (by decide) (Nat.le_of_ble_eq_true rfl) (c_X7_carsCome h8 ((hS0.upd (by omega) (by omega) (by omega)).upd (by omega) (by omega) (by omega)) ⟨⟨_, hg_ne (by omega) hg_eq⟩, ⟨_, hg_eq⟩⟩ hW (by omega) (fun h2 fx g => ?_) (fun h2 fx g => ?_))
              · refine aw_eq rfl (fun c => absurd c (by decide)) (fun _ => ?_)
                refine aw_c (v := -1) rfl (by decide) ?_
                exact aw_iret rfl rfl (Eq.mp (congrArg (fun v => Q (some (.int v)) _) (by rw [n_land_k hw24 hA2 hC1 (by omega) hc, if_neg c200, if_neg (fun z => z.elim c214 c220), if_pos ⟨c238, g⟩])) (q _ (FX.trans ⟨_, _, rfl⟩ fx)))
              · refine aw_eq rfl (fun _ => ?_) (fun c => absurd (by decide) c)
                refine aw rfl rfl ?_
                refine aw rfl rfl ?_
                refine aw_cs (d1 := 0) (L1 := 0) rfl rfl (by decide) (by decide) (Nat.le_of_ble_eq_true rfl) (c_X10_lieOf ?_)
                exact aw_iret rfl rfl (Eq.mp (congrArg (fun v => Q (some (.int v)) _) (by rw [n_land_k hw24 hA2 hC1 (by omega) hc, if_neg c200, if_neg (fun z => z.elim c214 c220), if_neg (fun z => g z.2)])) (q _ (FX.trans ⟨_, _, rfl⟩ fx)))
          · refine aw_c (v := -1) rfl (by decide) ?_
            exact aw_iret rfl rfl (Eq.mp (congrArg (fun v => Q (some (.int v)) _) (by rw [n_land_k hw24 hA2 hC1 (by omega) hc, if_neg c200, if_pos (Or.inr c220)])) (q _ ⟨_, _, rfl⟩))
      · refine aw rfl rfl ?_
        refine aw rfl rfl ?_
        refine aw_cs (d1 := 0) (L1 := 0) rfl rfl (by decide) (by decide) (Nat.le_of_ble_eq_true rfl) (c_X10_lieOf ?_)
        exact aw_iret rfl rfl (Eq.mp (congrArg (fun v => Q (some (.int v)) _) (by rw [n_land_k hw24 hA2 hC1 (by omega) hc, if_pos c200])) (q _ ⟨_, _, rfl⟩))
    · try subst ec
      refine aw_ist (ls' := [_, _, _, _, _, _, _, _, _, _, _]) rfl rfl ?_
      refine aw rfl rfl ?_
      refine aw_c (v := nI 5) rfl (by decide) ?_
      refine aw_ine rfl (fun _ => ?_) (fun c => absurd c (by decide))
      refine aw rfl rfl ?_
      refine aw_c (v := -1) rfl (by decide) ?_
      refine aw_ieq rfl (fun _ => ?_) (fun c => absurd (by decide) c)
      refine aw_c (v := -1) rfl (by decide) ?_
      exact aw_iret rfl rfl (Eq.mp (congrArg (fun v => Q (some (.int v)) _) (n_land_o hw24 (hC1.symm ▸ z))) (q _ ⟨_, _, rfl⟩))
  · refine aw rfl rfl ?_
    refine aw rfl rfl ?_
    refine aw rfl rfl ?_
    refine aw rfl rfl ?_
    refine aw_getf rfl (by repeat first | assumption | exact hg_eq | refine hg_ne (by first | assumption | omega) ?_) rfl ?_
    refine aw rfl rfl ?_
    refine aw_cv (d1 := 2) (L1 := 48) rfl rfl (by repeat first | assumption | exact hg_eq | refine hg_ne (by first | assumption | omega) ?_) rfl rfl (by decide) (by decide) (Nat.le_of_ble_eq_true rfl) (c_X7_carsCome h8 hS0 hX0 hW (by omega) (fun h2 fx g => ?_) (fun h2 fx g => ?_))
    · refine aw_eq rfl (fun c => absurd c (by decide)) (fun _ => ?_)
      refine aw_c (v := -1) rfl (by decide) ?_
      refine aw rfl rfl ?_
      exact aw_iret rfl rfl (Eq.mp (congrArg (fun v => Q (some (.int v)) _) (by rw [n_land_w c8, if_pos g])) (q _ fx))
    · refine aw_eq rfl (fun _ => ?_) (fun c => absurd (by decide) c)
      refine aw rfl rfl ?_
      exact aw_iret rfl rfl (Eq.mp (congrArg (fun v => Q (some (.int v)) _) (by rw [n_land_w c8, if_neg g])) (q _ fx))
end
section
/-! ===== the reference's cells as one state: k (kept), and what queries write over: variables, pile, isBroken, isLosing, chance, chanceThen, pair, pairThen, cameTo, byFace, byFaceThen ===== -/
abbrev Mk : Type := (Nat → Int32) × (Nat → Nat → Int32) × (Nat → Nat → Int64)
def mfs (k : Mk) (br lo : Int32) : List Value := [.int (k.1 0), .ref 122, .int (k.1 2), .ref 123, .int (k.1 4), .ref 124, .ref 125, .ref 126, .ref 127, .ref 128, .int (k.1 10), .int (k.1 11), .int (k.1 12), .int (k.1 13), .int (k.1 14), .int (k.1 15), .int (k.1 16), .int (k.1 17), .int (k.1 18), .int (k.1 19), .int (k.1 20), .ref 129, .ref 130, .ref 131, .ref 132, .ref 133, .ref 134, .ref 135, .ref 136, .ref 137, .ref 138, .ref 139, .ref 140, .ref 141, .ref 142, .ref 143, .ref 144, .ref 145, .ref 146, .int (k.1 39), .ref 147, .ref 148, .ref 149, .ref 150, .ref 151, .int (k.1 45), .ref 152, .ref 153, .ref 154, .int (k.1 49), .ref 155, .ref 156, .int br, .ref 157, .ref 158, .int lo, .ref 159, .ref 160, .int (k.1 58), .ref 161, .ref 162, .ref 163, .ref 164, .int (k.1 63), .ref 165, .ref 166, .ref 167, .ref 168, .ref 169, .ref 170]
def ml (k : Mk) (v pl : Nat → Int32) (br lo : Int32) (c ct pr pt cm bf bt : Nat → Int32) : List am_C := [.inl (11, mfs k br lo), .inr (1, 2000, .inl (k.2.1 1)), .inr (1, 2000, .inl (k.2.1 3)), .inr (0, 403, .inl (k.2.1 5)), .inr (0, 403, .inl (k.2.1 6)), .inr (0, 403, .inl (k.2.1 7)), .inr (3, 403, .inr (.inl (k.2.2 8))), .inr (3, 23, .inr (.inl (k.2.2 9))), .inr (3, 4, .inr (.inl (k.2.2 21))), .inr (0, 2, .inl (k.2.1 22)), .inr (0, 2, .inl (k.2.1 23)), .inr (0, 64, .inl (k.2.1 24)), .inr (0, 2, .inl (k.2.1 25)), .inr (0, 2, .inl (k.2.1 26)), .inr (0, 8, .inl (k.2.1 27)), .inr (0, 48, .inl (k.2.1 28)), .inr (0, 48, .inl (k.2.1 29)), .inr (0, 48, .inl (k.2.1 30)), .inr (0, 48, .inl (k.2.1 31)), .inr (0, 6, .inl (k.2.1 32)), .inr (0, 6, .inl (k.2.1 33)), .inr (0, 2, .inl (k.2.1 34)), .inr (0, 2, .inl (k.2.1 35)), .inr (0, 2, .inl (k.2.1 36)), .inr (0, 6, .inl (k.2.1 37)), .inr (0, 6, .inl (k.2.1 38)), .inr (2, 260, .inl (k.2.1 40)), .inr (0, 260, .inl (k.2.1 41)), .inr (0, 260, .inl (k.2.1 42)), .inr (0, 260, .inl (k.2.1 43)), .inr (0, 260, .inl (k.2.1 44)), .inr (0, 840, .inl (k.2.1 46)), .inr (0, 840, .inl (k.2.1 47)), .inr (0, 64, .inl (k.2.1 48)), .inr (0, 7, .inl v), .inr (0, 400, .inl pl), .inr (0, 10, .inl (k.2.1 53)), .inr (0, 10, .inl (k.2.1 54)), .inr (0, 385, .inl c), .inr (0, 385, .inl ct), .inr (0, 500, .inl (k.2.1 59)), .inr (0, 9409, .inl pr), .inr (0, 9409, .inl pt), .inr (0, 2880, .inl cm), .inr (0, 5, .inl (k.2.1 64)), .inr (0, 5, .inl (k.2.1 65)), .inr (0, 3, .inl bf), .inr (0, 3, .inl bt), .inr (2, 3, .inl (k.2.1 68)), .inr (0, 30, .inl (k.2.1 69))]
def mhl (g : am_H) (l : List am_C) : am_H := (g.1, g.2.1, fun p => if p < 121 then g.2.2 p else am_nth l (p - 121) (g.2.2 p))
def mh (g : am_H) (k : Mk) (v pl : Nat → Int32) (br lo : Int32) (c ct pr pt cm bf bt : Nat → Int32) : am_H := mhl g (ml k v pl br lo c ct pr pt cm bf bt)
theorem am_nth_set {α : Type} : ∀ (l : List α) (i j : Nat) (x d : α), i < l.length → am_nth (l.set i x) j d = if j = i then x else am_nth l j d := by
  intro l
  induction l with
  | nil => intro i j x d hi; exact absurd hi (Nat.not_lt_zero _)
  | cons a t ih =>
    intro i j x d hi
    cases i with
    | zero =>
      cases j with
      | zero => rfl
      | succ j => rfl
    | succ i =>
      cases j with
      | zero => rfl
      | succ j =>
        show am_nth (t.set i x) j d = if j + 1 = i + 1 then x else am_nth t j d
        rw [ih i j x d (Nat.lt_of_succ_lt_succ hi)]
        by_cases e : j = i
        · rw [if_pos e, if_pos (by omega)]
        · rw [if_neg e, if_neg (by omega)]
theorem mhl_up {g : am_H} {l : List am_C} {i : Nat} {c : am_C} (hi : i < l.length) : am_up (mhl g l) (121 + i) c = mhl g (l.set i c) := by
  unfold am_up mhl va_up
  refine congrArg (fun z => (g.1, g.2.1, z)) (funext fun p => ?_)
  by_cases e : p = 121 + i
  · subst e
    rw [if_pos rfl, if_neg (by omega), am_nth_set _ _ _ _ _ hi, if_pos (by omega)]
  · rw [if_neg e]
    show (if p < 121 then g.2.2 p else am_nth l (p - 121) (g.2.2 p)) = if p < 121 then g.2.2 p else am_nth (l.set i c) (p - 121) (g.2.2 p)
    by_cases h1 : p < 121
    · rw [if_pos h1, if_pos h1]
    · rw [if_neg h1, if_neg h1, am_nth_set _ _ _ _ _ hi, if_neg (by omega)]
section MH
variable {g : am_H} {k : Mk} {v pl : Nat → Int32} {br lo : Int32} {c ct pr pt cm bf bt : Nat → Int32}
theorem mg_121 : (mh g k v pl br lo c ct pr pt cm bf bt).2.2 121 = .inl (11, mfs k br lo) := rfl
theorem mg_122 : (mh g k v pl br lo c ct pr pt cm bf bt).2.2 122 = .inr (1, 2000, .inl (k.2.1 1)) := rfl
theorem mg_123 : (mh g k v pl br lo c ct pr pt cm bf bt).2.2 123 = .inr (1, 2000, .inl (k.2.1 3)) := rfl
theorem mg_124 : (mh g k v pl br lo c ct pr pt cm bf bt).2.2 124 = .inr (0, 403, .inl (k.2.1 5)) := rfl
theorem mg_125 : (mh g k v pl br lo c ct pr pt cm bf bt).2.2 125 = .inr (0, 403, .inl (k.2.1 6)) := rfl
theorem mg_126 : (mh g k v pl br lo c ct pr pt cm bf bt).2.2 126 = .inr (0, 403, .inl (k.2.1 7)) := rfl
theorem mg_127 : (mh g k v pl br lo c ct pr pt cm bf bt).2.2 127 = .inr (3, 403, .inr (.inl (k.2.2 8))) := rfl
theorem mg_128 : (mh g k v pl br lo c ct pr pt cm bf bt).2.2 128 = .inr (3, 23, .inr (.inl (k.2.2 9))) := rfl
theorem mg_129 : (mh g k v pl br lo c ct pr pt cm bf bt).2.2 129 = .inr (3, 4, .inr (.inl (k.2.2 21))) := rfl
theorem mg_130 : (mh g k v pl br lo c ct pr pt cm bf bt).2.2 130 = .inr (0, 2, .inl (k.2.1 22)) := rfl
theorem mg_131 : (mh g k v pl br lo c ct pr pt cm bf bt).2.2 131 = .inr (0, 2, .inl (k.2.1 23)) := rfl
theorem mg_132 : (mh g k v pl br lo c ct pr pt cm bf bt).2.2 132 = .inr (0, 64, .inl (k.2.1 24)) := rfl
theorem mg_133 : (mh g k v pl br lo c ct pr pt cm bf bt).2.2 133 = .inr (0, 2, .inl (k.2.1 25)) := rfl
theorem mg_134 : (mh g k v pl br lo c ct pr pt cm bf bt).2.2 134 = .inr (0, 2, .inl (k.2.1 26)) := rfl
theorem mg_135 : (mh g k v pl br lo c ct pr pt cm bf bt).2.2 135 = .inr (0, 8, .inl (k.2.1 27)) := rfl
theorem mg_136 : (mh g k v pl br lo c ct pr pt cm bf bt).2.2 136 = .inr (0, 48, .inl (k.2.1 28)) := rfl
theorem mg_137 : (mh g k v pl br lo c ct pr pt cm bf bt).2.2 137 = .inr (0, 48, .inl (k.2.1 29)) := rfl
theorem mg_138 : (mh g k v pl br lo c ct pr pt cm bf bt).2.2 138 = .inr (0, 48, .inl (k.2.1 30)) := rfl
theorem mg_139 : (mh g k v pl br lo c ct pr pt cm bf bt).2.2 139 = .inr (0, 48, .inl (k.2.1 31)) := rfl
theorem mg_140 : (mh g k v pl br lo c ct pr pt cm bf bt).2.2 140 = .inr (0, 6, .inl (k.2.1 32)) := rfl
theorem mg_141 : (mh g k v pl br lo c ct pr pt cm bf bt).2.2 141 = .inr (0, 6, .inl (k.2.1 33)) := rfl
theorem mg_142 : (mh g k v pl br lo c ct pr pt cm bf bt).2.2 142 = .inr (0, 2, .inl (k.2.1 34)) := rfl
theorem mg_143 : (mh g k v pl br lo c ct pr pt cm bf bt).2.2 143 = .inr (0, 2, .inl (k.2.1 35)) := rfl
theorem mg_144 : (mh g k v pl br lo c ct pr pt cm bf bt).2.2 144 = .inr (0, 2, .inl (k.2.1 36)) := rfl
theorem mg_145 : (mh g k v pl br lo c ct pr pt cm bf bt).2.2 145 = .inr (0, 6, .inl (k.2.1 37)) := rfl
theorem mg_146 : (mh g k v pl br lo c ct pr pt cm bf bt).2.2 146 = .inr (0, 6, .inl (k.2.1 38)) := rfl
theorem mg_147 : (mh g k v pl br lo c ct pr pt cm bf bt).2.2 147 = .inr (2, 260, .inl (k.2.1 40)) := rfl
theorem mg_148 : (mh g k v pl br lo c ct pr pt cm bf bt).2.2 148 = .inr (0, 260, .inl (k.2.1 41)) := rfl
theorem mg_149 : (mh g k v pl br lo c ct pr pt cm bf bt).2.2 149 = .inr (0, 260, .inl (k.2.1 42)) := rfl
theorem mg_150 : (mh g k v pl br lo c ct pr pt cm bf bt).2.2 150 = .inr (0, 260, .inl (k.2.1 43)) := rfl
theorem mg_151 : (mh g k v pl br lo c ct pr pt cm bf bt).2.2 151 = .inr (0, 260, .inl (k.2.1 44)) := rfl
theorem mg_152 : (mh g k v pl br lo c ct pr pt cm bf bt).2.2 152 = .inr (0, 840, .inl (k.2.1 46)) := rfl
theorem mg_153 : (mh g k v pl br lo c ct pr pt cm bf bt).2.2 153 = .inr (0, 840, .inl (k.2.1 47)) := rfl
theorem mg_154 : (mh g k v pl br lo c ct pr pt cm bf bt).2.2 154 = .inr (0, 64, .inl (k.2.1 48)) := rfl
theorem mg_155 : (mh g k v pl br lo c ct pr pt cm bf bt).2.2 155 = .inr (0, 7, .inl v) := rfl
theorem mg_156 : (mh g k v pl br lo c ct pr pt cm bf bt).2.2 156 = .inr (0, 400, .inl pl) := rfl
theorem mg_157 : (mh g k v pl br lo c ct pr pt cm bf bt).2.2 157 = .inr (0, 10, .inl (k.2.1 53)) := rfl
theorem mg_158 : (mh g k v pl br lo c ct pr pt cm bf bt).2.2 158 = .inr (0, 10, .inl (k.2.1 54)) := rfl
theorem mg_159 : (mh g k v pl br lo c ct pr pt cm bf bt).2.2 159 = .inr (0, 385, .inl c) := rfl
theorem mg_160 : (mh g k v pl br lo c ct pr pt cm bf bt).2.2 160 = .inr (0, 385, .inl ct) := rfl
theorem mg_161 : (mh g k v pl br lo c ct pr pt cm bf bt).2.2 161 = .inr (0, 500, .inl (k.2.1 59)) := rfl
theorem mg_162 : (mh g k v pl br lo c ct pr pt cm bf bt).2.2 162 = .inr (0, 9409, .inl pr) := rfl
theorem mg_163 : (mh g k v pl br lo c ct pr pt cm bf bt).2.2 163 = .inr (0, 9409, .inl pt) := rfl
theorem mg_164 : (mh g k v pl br lo c ct pr pt cm bf bt).2.2 164 = .inr (0, 2880, .inl cm) := rfl
theorem mg_165 : (mh g k v pl br lo c ct pr pt cm bf bt).2.2 165 = .inr (0, 5, .inl (k.2.1 64)) := rfl
theorem mg_166 : (mh g k v pl br lo c ct pr pt cm bf bt).2.2 166 = .inr (0, 5, .inl (k.2.1 65)) := rfl
theorem mg_167 : (mh g k v pl br lo c ct pr pt cm bf bt).2.2 167 = .inr (0, 3, .inl bf) := rfl
theorem mg_168 : (mh g k v pl br lo c ct pr pt cm bf bt).2.2 168 = .inr (0, 3, .inl bt) := rfl
theorem mg_169 : (mh g k v pl br lo c ct pr pt cm bf bt).2.2 169 = .inr (2, 3, .inl (k.2.1 68)) := rfl
theorem mg_170 : (mh g k v pl br lo c ct pr pt cm bf bt).2.2 170 = .inr (0, 30, .inl (k.2.1 69)) := rfl
theorem mu_122 {f : Nat → Int32} : am_up (mh g k v pl br lo c ct pr pt cm bf bt) 122 (.inr (1, 2000, .inl f)) = mh g (k.1, va_up k.2.1 1 f, k.2.2) v pl br lo c ct pr pt cm bf bt := mhl_up (i := 1) (Nat.le_of_ble_eq_true rfl)
theorem mu_123 {f : Nat → Int32} : am_up (mh g k v pl br lo c ct pr pt cm bf bt) 123 (.inr (1, 2000, .inl f)) = mh g (k.1, va_up k.2.1 3 f, k.2.2) v pl br lo c ct pr pt cm bf bt := mhl_up (i := 2) (Nat.le_of_ble_eq_true rfl)
theorem mu_124 {f : Nat → Int32} : am_up (mh g k v pl br lo c ct pr pt cm bf bt) 124 (.inr (0, 403, .inl f)) = mh g (k.1, va_up k.2.1 5 f, k.2.2) v pl br lo c ct pr pt cm bf bt := mhl_up (i := 3) (Nat.le_of_ble_eq_true rfl)
theorem mu_125 {f : Nat → Int32} : am_up (mh g k v pl br lo c ct pr pt cm bf bt) 125 (.inr (0, 403, .inl f)) = mh g (k.1, va_up k.2.1 6 f, k.2.2) v pl br lo c ct pr pt cm bf bt := mhl_up (i := 4) (Nat.le_of_ble_eq_true rfl)
theorem mu_126 {f : Nat → Int32} : am_up (mh g k v pl br lo c ct pr pt cm bf bt) 126 (.inr (0, 403, .inl f)) = mh g (k.1, va_up k.2.1 7 f, k.2.2) v pl br lo c ct pr pt cm bf bt := mhl_up (i := 5) (Nat.le_of_ble_eq_true rfl)
theorem mu_127 {f : Nat → Int64} : am_up (mh g k v pl br lo c ct pr pt cm bf bt) 127 (.inr (3, 403, .inr (.inl f))) = mh g (k.1, k.2.1, va_up k.2.2 8 f) v pl br lo c ct pr pt cm bf bt := mhl_up (i := 6) (Nat.le_of_ble_eq_true rfl)
theorem mu_128 {f : Nat → Int64} : am_up (mh g k v pl br lo c ct pr pt cm bf bt) 128 (.inr (3, 23, .inr (.inl f))) = mh g (k.1, k.2.1, va_up k.2.2 9 f) v pl br lo c ct pr pt cm bf bt := mhl_up (i := 7) (Nat.le_of_ble_eq_true rfl)
theorem mu_129 {f : Nat → Int64} : am_up (mh g k v pl br lo c ct pr pt cm bf bt) 129 (.inr (3, 4, .inr (.inl f))) = mh g (k.1, k.2.1, va_up k.2.2 21 f) v pl br lo c ct pr pt cm bf bt := mhl_up (i := 8) (Nat.le_of_ble_eq_true rfl)
theorem mu_130 {f : Nat → Int32} : am_up (mh g k v pl br lo c ct pr pt cm bf bt) 130 (.inr (0, 2, .inl f)) = mh g (k.1, va_up k.2.1 22 f, k.2.2) v pl br lo c ct pr pt cm bf bt := mhl_up (i := 9) (Nat.le_of_ble_eq_true rfl)
theorem mu_131 {f : Nat → Int32} : am_up (mh g k v pl br lo c ct pr pt cm bf bt) 131 (.inr (0, 2, .inl f)) = mh g (k.1, va_up k.2.1 23 f, k.2.2) v pl br lo c ct pr pt cm bf bt := mhl_up (i := 10) (Nat.le_of_ble_eq_true rfl)
theorem mu_132 {f : Nat → Int32} : am_up (mh g k v pl br lo c ct pr pt cm bf bt) 132 (.inr (0, 64, .inl f)) = mh g (k.1, va_up k.2.1 24 f, k.2.2) v pl br lo c ct pr pt cm bf bt := mhl_up (i := 11) (Nat.le_of_ble_eq_true rfl)
theorem mu_133 {f : Nat → Int32} : am_up (mh g k v pl br lo c ct pr pt cm bf bt) 133 (.inr (0, 2, .inl f)) = mh g (k.1, va_up k.2.1 25 f, k.2.2) v pl br lo c ct pr pt cm bf bt := mhl_up (i := 12) (Nat.le_of_ble_eq_true rfl)
theorem mu_134 {f : Nat → Int32} : am_up (mh g k v pl br lo c ct pr pt cm bf bt) 134 (.inr (0, 2, .inl f)) = mh g (k.1, va_up k.2.1 26 f, k.2.2) v pl br lo c ct pr pt cm bf bt := mhl_up (i := 13) (Nat.le_of_ble_eq_true rfl)
theorem mu_135 {f : Nat → Int32} : am_up (mh g k v pl br lo c ct pr pt cm bf bt) 135 (.inr (0, 8, .inl f)) = mh g (k.1, va_up k.2.1 27 f, k.2.2) v pl br lo c ct pr pt cm bf bt := mhl_up (i := 14) (Nat.le_of_ble_eq_true rfl)
theorem mu_136 {f : Nat → Int32} : am_up (mh g k v pl br lo c ct pr pt cm bf bt) 136 (.inr (0, 48, .inl f)) = mh g (k.1, va_up k.2.1 28 f, k.2.2) v pl br lo c ct pr pt cm bf bt := mhl_up (i := 15) (Nat.le_of_ble_eq_true rfl)
theorem mu_137 {f : Nat → Int32} : am_up (mh g k v pl br lo c ct pr pt cm bf bt) 137 (.inr (0, 48, .inl f)) = mh g (k.1, va_up k.2.1 29 f, k.2.2) v pl br lo c ct pr pt cm bf bt := mhl_up (i := 16) (Nat.le_of_ble_eq_true rfl)
theorem mu_138 {f : Nat → Int32} : am_up (mh g k v pl br lo c ct pr pt cm bf bt) 138 (.inr (0, 48, .inl f)) = mh g (k.1, va_up k.2.1 30 f, k.2.2) v pl br lo c ct pr pt cm bf bt := mhl_up (i := 17) (Nat.le_of_ble_eq_true rfl)
theorem mu_139 {f : Nat → Int32} : am_up (mh g k v pl br lo c ct pr pt cm bf bt) 139 (.inr (0, 48, .inl f)) = mh g (k.1, va_up k.2.1 31 f, k.2.2) v pl br lo c ct pr pt cm bf bt := mhl_up (i := 18) (Nat.le_of_ble_eq_true rfl)
theorem mu_140 {f : Nat → Int32} : am_up (mh g k v pl br lo c ct pr pt cm bf bt) 140 (.inr (0, 6, .inl f)) = mh g (k.1, va_up k.2.1 32 f, k.2.2) v pl br lo c ct pr pt cm bf bt := mhl_up (i := 19) (Nat.le_of_ble_eq_true rfl)
theorem mu_141 {f : Nat → Int32} : am_up (mh g k v pl br lo c ct pr pt cm bf bt) 141 (.inr (0, 6, .inl f)) = mh g (k.1, va_up k.2.1 33 f, k.2.2) v pl br lo c ct pr pt cm bf bt := mhl_up (i := 20) (Nat.le_of_ble_eq_true rfl)
theorem mu_142 {f : Nat → Int32} : am_up (mh g k v pl br lo c ct pr pt cm bf bt) 142 (.inr (0, 2, .inl f)) = mh g (k.1, va_up k.2.1 34 f, k.2.2) v pl br lo c ct pr pt cm bf bt := mhl_up (i := 21) (Nat.le_of_ble_eq_true rfl)
theorem mu_143 {f : Nat → Int32} : am_up (mh g k v pl br lo c ct pr pt cm bf bt) 143 (.inr (0, 2, .inl f)) = mh g (k.1, va_up k.2.1 35 f, k.2.2) v pl br lo c ct pr pt cm bf bt := mhl_up (i := 22) (Nat.le_of_ble_eq_true rfl)
theorem mu_144 {f : Nat → Int32} : am_up (mh g k v pl br lo c ct pr pt cm bf bt) 144 (.inr (0, 2, .inl f)) = mh g (k.1, va_up k.2.1 36 f, k.2.2) v pl br lo c ct pr pt cm bf bt := mhl_up (i := 23) (Nat.le_of_ble_eq_true rfl)
theorem mu_145 {f : Nat → Int32} : am_up (mh g k v pl br lo c ct pr pt cm bf bt) 145 (.inr (0, 6, .inl f)) = mh g (k.1, va_up k.2.1 37 f, k.2.2) v pl br lo c ct pr pt cm bf bt := mhl_up (i := 24) (Nat.le_of_ble_eq_true rfl)
theorem mu_146 {f : Nat → Int32} : am_up (mh g k v pl br lo c ct pr pt cm bf bt) 146 (.inr (0, 6, .inl f)) = mh g (k.1, va_up k.2.1 38 f, k.2.2) v pl br lo c ct pr pt cm bf bt := mhl_up (i := 25) (Nat.le_of_ble_eq_true rfl)
theorem mu_147 {f : Nat → Int32} : am_up (mh g k v pl br lo c ct pr pt cm bf bt) 147 (.inr (2, 260, .inl f)) = mh g (k.1, va_up k.2.1 40 f, k.2.2) v pl br lo c ct pr pt cm bf bt := mhl_up (i := 26) (Nat.le_of_ble_eq_true rfl)
theorem mu_148 {f : Nat → Int32} : am_up (mh g k v pl br lo c ct pr pt cm bf bt) 148 (.inr (0, 260, .inl f)) = mh g (k.1, va_up k.2.1 41 f, k.2.2) v pl br lo c ct pr pt cm bf bt := mhl_up (i := 27) (Nat.le_of_ble_eq_true rfl)
theorem mu_149 {f : Nat → Int32} : am_up (mh g k v pl br lo c ct pr pt cm bf bt) 149 (.inr (0, 260, .inl f)) = mh g (k.1, va_up k.2.1 42 f, k.2.2) v pl br lo c ct pr pt cm bf bt := mhl_up (i := 28) (Nat.le_of_ble_eq_true rfl)
theorem mu_150 {f : Nat → Int32} : am_up (mh g k v pl br lo c ct pr pt cm bf bt) 150 (.inr (0, 260, .inl f)) = mh g (k.1, va_up k.2.1 43 f, k.2.2) v pl br lo c ct pr pt cm bf bt := mhl_up (i := 29) (Nat.le_of_ble_eq_true rfl)
theorem mu_151 {f : Nat → Int32} : am_up (mh g k v pl br lo c ct pr pt cm bf bt) 151 (.inr (0, 260, .inl f)) = mh g (k.1, va_up k.2.1 44 f, k.2.2) v pl br lo c ct pr pt cm bf bt := mhl_up (i := 30) (Nat.le_of_ble_eq_true rfl)
theorem mu_152 {f : Nat → Int32} : am_up (mh g k v pl br lo c ct pr pt cm bf bt) 152 (.inr (0, 840, .inl f)) = mh g (k.1, va_up k.2.1 46 f, k.2.2) v pl br lo c ct pr pt cm bf bt := mhl_up (i := 31) (Nat.le_of_ble_eq_true rfl)
theorem mu_153 {f : Nat → Int32} : am_up (mh g k v pl br lo c ct pr pt cm bf bt) 153 (.inr (0, 840, .inl f)) = mh g (k.1, va_up k.2.1 47 f, k.2.2) v pl br lo c ct pr pt cm bf bt := mhl_up (i := 32) (Nat.le_of_ble_eq_true rfl)
theorem mu_154 {f : Nat → Int32} : am_up (mh g k v pl br lo c ct pr pt cm bf bt) 154 (.inr (0, 64, .inl f)) = mh g (k.1, va_up k.2.1 48 f, k.2.2) v pl br lo c ct pr pt cm bf bt := mhl_up (i := 33) (Nat.le_of_ble_eq_true rfl)
theorem mu_155 {f : Nat → Int32} : am_up (mh g k v pl br lo c ct pr pt cm bf bt) 155 (.inr (0, 7, .inl f)) = mh g k f pl br lo c ct pr pt cm bf bt := mhl_up (i := 34) (Nat.le_of_ble_eq_true rfl)
theorem mu_156 {f : Nat → Int32} : am_up (mh g k v pl br lo c ct pr pt cm bf bt) 156 (.inr (0, 400, .inl f)) = mh g k v f br lo c ct pr pt cm bf bt := mhl_up (i := 35) (Nat.le_of_ble_eq_true rfl)
theorem mu_157 {f : Nat → Int32} : am_up (mh g k v pl br lo c ct pr pt cm bf bt) 157 (.inr (0, 10, .inl f)) = mh g (k.1, va_up k.2.1 53 f, k.2.2) v pl br lo c ct pr pt cm bf bt := mhl_up (i := 36) (Nat.le_of_ble_eq_true rfl)
theorem mu_158 {f : Nat → Int32} : am_up (mh g k v pl br lo c ct pr pt cm bf bt) 158 (.inr (0, 10, .inl f)) = mh g (k.1, va_up k.2.1 54 f, k.2.2) v pl br lo c ct pr pt cm bf bt := mhl_up (i := 37) (Nat.le_of_ble_eq_true rfl)
theorem mu_159 {f : Nat → Int32} : am_up (mh g k v pl br lo c ct pr pt cm bf bt) 159 (.inr (0, 385, .inl f)) = mh g k v pl br lo f ct pr pt cm bf bt := mhl_up (i := 38) (Nat.le_of_ble_eq_true rfl)
theorem mu_160 {f : Nat → Int32} : am_up (mh g k v pl br lo c ct pr pt cm bf bt) 160 (.inr (0, 385, .inl f)) = mh g k v pl br lo c f pr pt cm bf bt := mhl_up (i := 39) (Nat.le_of_ble_eq_true rfl)
theorem mu_161 {f : Nat → Int32} : am_up (mh g k v pl br lo c ct pr pt cm bf bt) 161 (.inr (0, 500, .inl f)) = mh g (k.1, va_up k.2.1 59 f, k.2.2) v pl br lo c ct pr pt cm bf bt := mhl_up (i := 40) (Nat.le_of_ble_eq_true rfl)
theorem mu_162 {f : Nat → Int32} : am_up (mh g k v pl br lo c ct pr pt cm bf bt) 162 (.inr (0, 9409, .inl f)) = mh g k v pl br lo c ct f pt cm bf bt := mhl_up (i := 41) (Nat.le_of_ble_eq_true rfl)
theorem mu_163 {f : Nat → Int32} : am_up (mh g k v pl br lo c ct pr pt cm bf bt) 163 (.inr (0, 9409, .inl f)) = mh g k v pl br lo c ct pr f cm bf bt := mhl_up (i := 42) (Nat.le_of_ble_eq_true rfl)
theorem mu_164 {f : Nat → Int32} : am_up (mh g k v pl br lo c ct pr pt cm bf bt) 164 (.inr (0, 2880, .inl f)) = mh g k v pl br lo c ct pr pt f bf bt := mhl_up (i := 43) (Nat.le_of_ble_eq_true rfl)
theorem mu_165 {f : Nat → Int32} : am_up (mh g k v pl br lo c ct pr pt cm bf bt) 165 (.inr (0, 5, .inl f)) = mh g (k.1, va_up k.2.1 64 f, k.2.2) v pl br lo c ct pr pt cm bf bt := mhl_up (i := 44) (Nat.le_of_ble_eq_true rfl)
theorem mu_166 {f : Nat → Int32} : am_up (mh g k v pl br lo c ct pr pt cm bf bt) 166 (.inr (0, 5, .inl f)) = mh g (k.1, va_up k.2.1 65 f, k.2.2) v pl br lo c ct pr pt cm bf bt := mhl_up (i := 45) (Nat.le_of_ble_eq_true rfl)
theorem mu_167 {f : Nat → Int32} : am_up (mh g k v pl br lo c ct pr pt cm bf bt) 167 (.inr (0, 3, .inl f)) = mh g k v pl br lo c ct pr pt cm f bt := mhl_up (i := 46) (Nat.le_of_ble_eq_true rfl)
theorem mu_168 {f : Nat → Int32} : am_up (mh g k v pl br lo c ct pr pt cm bf bt) 168 (.inr (0, 3, .inl f)) = mh g k v pl br lo c ct pr pt cm bf f := mhl_up (i := 47) (Nat.le_of_ble_eq_true rfl)
theorem mu_169 {f : Nat → Int32} : am_up (mh g k v pl br lo c ct pr pt cm bf bt) 169 (.inr (2, 3, .inl f)) = mh g (k.1, va_up k.2.1 68 f, k.2.2) v pl br lo c ct pr pt cm bf bt := mhl_up (i := 48) (Nat.le_of_ble_eq_true rfl)
theorem mu_170 {f : Nat → Int32} : am_up (mh g k v pl br lo c ct pr pt cm bf bt) 170 (.inr (0, 30, .inl f)) = mh g (k.1, va_up k.2.1 69 f, k.2.2) v pl br lo c ct pr pt cm bf bt := mhl_up (i := 49) (Nat.le_of_ble_eq_true rfl)
theorem mp_0 {x : Int32} : am_up (mh g k v pl br lo c ct pr pt cm bf bt) 121 (.inl (11, (mfs k br lo).set 0 (.int x))) = mh g (va_up k.1 0 x, k.2.1, k.2.2) v pl br lo c ct pr pt cm bf bt := mhl_up (i := 0) (Nat.le_of_ble_eq_true rfl)
theorem mp_2 {x : Int32} : am_up (mh g k v pl br lo c ct pr pt cm bf bt) 121 (.inl (11, (mfs k br lo).set 2 (.int x))) = mh g (va_up k.1 2 x, k.2.1, k.2.2) v pl br lo c ct pr pt cm bf bt := mhl_up (i := 0) (Nat.le_of_ble_eq_true rfl)
theorem mp_4 {x : Int32} : am_up (mh g k v pl br lo c ct pr pt cm bf bt) 121 (.inl (11, (mfs k br lo).set 4 (.int x))) = mh g (va_up k.1 4 x, k.2.1, k.2.2) v pl br lo c ct pr pt cm bf bt := mhl_up (i := 0) (Nat.le_of_ble_eq_true rfl)
theorem mp_10 {x : Int32} : am_up (mh g k v pl br lo c ct pr pt cm bf bt) 121 (.inl (11, (mfs k br lo).set 10 (.int x))) = mh g (va_up k.1 10 x, k.2.1, k.2.2) v pl br lo c ct pr pt cm bf bt := mhl_up (i := 0) (Nat.le_of_ble_eq_true rfl)
theorem mp_11 {x : Int32} : am_up (mh g k v pl br lo c ct pr pt cm bf bt) 121 (.inl (11, (mfs k br lo).set 11 (.int x))) = mh g (va_up k.1 11 x, k.2.1, k.2.2) v pl br lo c ct pr pt cm bf bt := mhl_up (i := 0) (Nat.le_of_ble_eq_true rfl)
theorem mp_12 {x : Int32} : am_up (mh g k v pl br lo c ct pr pt cm bf bt) 121 (.inl (11, (mfs k br lo).set 12 (.int x))) = mh g (va_up k.1 12 x, k.2.1, k.2.2) v pl br lo c ct pr pt cm bf bt := mhl_up (i := 0) (Nat.le_of_ble_eq_true rfl)
theorem mp_13 {x : Int32} : am_up (mh g k v pl br lo c ct pr pt cm bf bt) 121 (.inl (11, (mfs k br lo).set 13 (.int x))) = mh g (va_up k.1 13 x, k.2.1, k.2.2) v pl br lo c ct pr pt cm bf bt := mhl_up (i := 0) (Nat.le_of_ble_eq_true rfl)
theorem mp_14 {x : Int32} : am_up (mh g k v pl br lo c ct pr pt cm bf bt) 121 (.inl (11, (mfs k br lo).set 14 (.int x))) = mh g (va_up k.1 14 x, k.2.1, k.2.2) v pl br lo c ct pr pt cm bf bt := mhl_up (i := 0) (Nat.le_of_ble_eq_true rfl)
theorem mp_15 {x : Int32} : am_up (mh g k v pl br lo c ct pr pt cm bf bt) 121 (.inl (11, (mfs k br lo).set 15 (.int x))) = mh g (va_up k.1 15 x, k.2.1, k.2.2) v pl br lo c ct pr pt cm bf bt := mhl_up (i := 0) (Nat.le_of_ble_eq_true rfl)
theorem mp_16 {x : Int32} : am_up (mh g k v pl br lo c ct pr pt cm bf bt) 121 (.inl (11, (mfs k br lo).set 16 (.int x))) = mh g (va_up k.1 16 x, k.2.1, k.2.2) v pl br lo c ct pr pt cm bf bt := mhl_up (i := 0) (Nat.le_of_ble_eq_true rfl)
theorem mp_17 {x : Int32} : am_up (mh g k v pl br lo c ct pr pt cm bf bt) 121 (.inl (11, (mfs k br lo).set 17 (.int x))) = mh g (va_up k.1 17 x, k.2.1, k.2.2) v pl br lo c ct pr pt cm bf bt := mhl_up (i := 0) (Nat.le_of_ble_eq_true rfl)
theorem mp_18 {x : Int32} : am_up (mh g k v pl br lo c ct pr pt cm bf bt) 121 (.inl (11, (mfs k br lo).set 18 (.int x))) = mh g (va_up k.1 18 x, k.2.1, k.2.2) v pl br lo c ct pr pt cm bf bt := mhl_up (i := 0) (Nat.le_of_ble_eq_true rfl)
theorem mp_19 {x : Int32} : am_up (mh g k v pl br lo c ct pr pt cm bf bt) 121 (.inl (11, (mfs k br lo).set 19 (.int x))) = mh g (va_up k.1 19 x, k.2.1, k.2.2) v pl br lo c ct pr pt cm bf bt := mhl_up (i := 0) (Nat.le_of_ble_eq_true rfl)
theorem mp_20 {x : Int32} : am_up (mh g k v pl br lo c ct pr pt cm bf bt) 121 (.inl (11, (mfs k br lo).set 20 (.int x))) = mh g (va_up k.1 20 x, k.2.1, k.2.2) v pl br lo c ct pr pt cm bf bt := mhl_up (i := 0) (Nat.le_of_ble_eq_true rfl)
theorem mp_39 {x : Int32} : am_up (mh g k v pl br lo c ct pr pt cm bf bt) 121 (.inl (11, (mfs k br lo).set 39 (.int x))) = mh g (va_up k.1 39 x, k.2.1, k.2.2) v pl br lo c ct pr pt cm bf bt := mhl_up (i := 0) (Nat.le_of_ble_eq_true rfl)
theorem mp_45 {x : Int32} : am_up (mh g k v pl br lo c ct pr pt cm bf bt) 121 (.inl (11, (mfs k br lo).set 45 (.int x))) = mh g (va_up k.1 45 x, k.2.1, k.2.2) v pl br lo c ct pr pt cm bf bt := mhl_up (i := 0) (Nat.le_of_ble_eq_true rfl)
theorem mp_49 {x : Int32} : am_up (mh g k v pl br lo c ct pr pt cm bf bt) 121 (.inl (11, (mfs k br lo).set 49 (.int x))) = mh g (va_up k.1 49 x, k.2.1, k.2.2) v pl br lo c ct pr pt cm bf bt := mhl_up (i := 0) (Nat.le_of_ble_eq_true rfl)
theorem mp_52 {x : Int32} : am_up (mh g k v pl br lo c ct pr pt cm bf bt) 121 (.inl (11, (mfs k br lo).set 52 (.int x))) = mh g k v pl x lo c ct pr pt cm bf bt := mhl_up (i := 0) (Nat.le_of_ble_eq_true rfl)
theorem mp_55 {x : Int32} : am_up (mh g k v pl br lo c ct pr pt cm bf bt) 121 (.inl (11, (mfs k br lo).set 55 (.int x))) = mh g k v pl br x c ct pr pt cm bf bt := mhl_up (i := 0) (Nat.le_of_ble_eq_true rfl)
theorem mp_58 {x : Int32} : am_up (mh g k v pl br lo c ct pr pt cm bf bt) 121 (.inl (11, (mfs k br lo).set 58 (.int x))) = mh g (va_up k.1 58 x, k.2.1, k.2.2) v pl br lo c ct pr pt cm bf bt := mhl_up (i := 0) (Nat.le_of_ble_eq_true rfl)
theorem mp_63 {x : Int32} : am_up (mh g k v pl br lo c ct pr pt cm bf bt) 121 (.inl (11, (mfs k br lo).set 63 (.int x))) = mh g (va_up k.1 63 x, k.2.1, k.2.2) v pl br lo c ct pr pt cm bf bt := mhl_up (i := 0) (Nat.le_of_ble_eq_true rfl)
end MH
section MR
variable {d L M pc nx a b : Nat} {ls ls' : List (Option Value)} {st : List Value} {h h' : am_H} {Q : Option Value → am_H → Prop}
theorem aw_iastU {q k n : Nat} {j x : Int32} {f : Nat → Int32} {r : List Value} (hf : am_at (am_P M).2.2.2 pc = some (.iastore, nx, a, b)) (hc : h.2.2 q = .inr (0, n, .inl f)) (hj : j = nI k) (hk : k < n) (hn : n < 2147483648) (h8 : 8 ≤ q) (hu : am_up h q (.inr (0, n, .inl (upd f k x))) = h') (kk : AW am_P d L M nx ls r h' Q) : AW am_P d L M pc ls (.int x :: .int j :: .ref q :: r) h Q := by
  subst hu
  exact aw_iast hf hc hj hk hn h8 kk
theorem aw_bastU {q k n : Nat} {j x : Int32} {f : Nat → Int32} {r : List Value} (hf : am_at (am_P M).2.2.2 pc = some (.bastore, nx, a, b)) (hc : h.2.2 q = .inr (a, n, .inl f)) (hj : j = nI k) (hk : k < n) (hn : n < 2147483648) (h8 : 8 ≤ q) (hu : am_up h q (.inr (a, n, .inl (upd f k (vp_nar (bif Nat.beq a 1 then .byte else .boolean) x)))) = h') (kk : AW am_P d L M nx ls r h' Q) : AW am_P d L M pc ls (.int x :: .int j :: .ref q :: r) h Q := by
  subst hu
  exact aw_bast hf hc hj hk hn h8 kk
theorem aw_lastU {q k n : Nat} {j : Int32} {x : Int64} {f : Nat → Int64} {r : List Value} (hf : am_at (am_P M).2.2.2 pc = some (.lastore, nx, a, b)) (hc : h.2.2 q = .inr (3, n, .inr (.inl f))) (hj : j = nI k) (hk : k < n) (hn : n < 2147483648) (h8 : 8 ≤ q) (hu : am_up h q (.inr (3, n, .inr (.inl (vp_updL f k x)))) = h') (kk : AW am_P d L M nx ls r h' Q) : AW am_P d L M pc ls (.long x :: .int j :: .ref q :: r) h Q := by
  subst hu
  exact aw_last hf hc hj hk hn h8 kk
theorem aw_putfU {idx q : Nat} {fs : List Value} {v : Value} {r : List Value} (hf : am_at (am_P M).2.2.2 pc = some (.putfield idx, nx, a, b)) (hc : h.2.2 q = .inl (a, fs)) (hl : Nat.blt (b / 8) fs.length = true) (hft : am_fit (b % 4) v = true) (h8 : 8 ≤ q) (hu : am_up h q (.inl (a, fs.set (b / 8) v)) = h') (k : AW am_P d L M nx ls r h' Q) : AW am_P d L M pc ls (v :: .ref q :: r) h Q := by
  subst hu
  exact aw_putf hf hc hl hft rfl h8 k
theorem aw_ialdE {q k n : Nat} {j y : Int32} {f : Nat → Int32} {r : List Value} (hf : am_at (am_P M).2.2.2 pc = some (.iaload, nx, a, b)) (hc : h.2.2 q = .inr (0, n, .inl f)) (hj : j = nI k) (hk : k < n) (hn : n < 2147483648) (hv : f k = y) (kk : AW am_P d L M nx ls (.int y :: r) h Q) : AW am_P d L M pc ls (.int j :: .ref q :: r) h Q := by
  subst hv
  exact aw_iald hf hc hj hk hn kk
theorem aw_getfE {idx q : Nat} {fs : List Value} {v v' : Value} {r : List Value} (hf : am_at (am_P M).2.2.2 pc = some (.getfield idx, nx, a, b)) (hc : h.2.2 q = .inl (a, fs)) (hv : fs[b]? = some v) (he : v = v') (k : AW am_P d L M nx ls (v' :: r) h Q) : AW am_P d L M pc ls (.ref q :: r) h Q := by
  subst he
  exact aw_getf hf hc hv k
end MR
end
section
/-! ===== the reference: leaves ===== -/
section M1
variable {g : am_H} {k : Mk} {v pl : Nat → Int32} {br lo : Int32} {c ct pr pt cm bf bt : Nat → Int32}
theorem c_X11_in {Q : Option Value → am_H → Prop} {x a b : Int32} (q1 : a ≤ x → x ≤ b → Q (some (.int (nI 1))) (mh g k v pl br lo c ct pr pt cm bf bt)) (q0 : (¬ a ≤ x ∨ ¬ x ≤ b) → Q (some (.int (nI 0))) (mh g k v pl br lo c ct pr pt cm bf bt)) : AC am_P 0 0 230 [.int x, .int a, .int b] (mh g k v pl br lo c ct pr pt cm bf bt) Q := by
  refine AC.of (ls := [_, _, _]) rfl ?_
  refine aw rfl rfl ?_
  refine aw rfl rfl ?_
  refine aw_ilt rfl (fun c2 => ?_) (fun c2 => ?_)
  · refine aw_c (v := nI 0) rfl (by decide) ?_
    exact aw_iret rfl rfl (q0 (Or.inl (Int32.not_le.mpr c2)))
  · refine aw rfl rfl ?_
    refine aw rfl rfl ?_
    refine aw_igt rfl (fun c7 => ?_) (fun c7 => ?_)
    · refine aw_c (v := nI 0) rfl (by decide) ?_
      exact aw_iret rfl rfl (q0 (Or.inr (Int32.not_le.mpr c7)))
    · refine aw_c (v := nI 1) rfl (by decide) ?_
      refine aw rfl rfl ?_
      exact aw_iret rfl rfl (q1 (Int32.not_lt.mp c2) (Int32.not_lt.mp c7))
theorem c_X11_numberOf {Q : Option Value → am_H → Prop} {a e f w : Nat} (q : Q (some (.int (nI (((8 * e + a) * 3 + f) * 4 + w)))) (mh g k v pl br lo c ct pr pt cm bf bt)) : AC am_P 0 0 222 [.int (nI a), .int (nI e), .int (nI f), .int (nI w)] (mh g k v pl br lo c ct pr pt cm bf bt) Q := by
  refine AC.of (ls := [_, _, _, _]) rfl ?_
  refine aw_c (v := nI 8) rfl (by decide) ?_
  refine aw rfl rfl ?_
  refine aw_muln rfl ?_
  refine aw rfl rfl ?_
  refine aw_addn rfl ?_
  refine aw_c (v := nI 3) rfl (by decide) ?_
  refine aw_muln rfl ?_
  refine aw rfl rfl ?_
  refine aw_addn rfl ?_
  refine aw_c (v := nI 4) rfl (by decide) ?_
  refine aw_muln rfl ?_
  refine aw rfl rfl ?_
  refine aw_addn rfl ?_
  exact aw_iret rfl rfl q
theorem c_X11_alongOf {Q : Option Value → am_H → Prop} {s : Nat} (hs : s < 2147483648) (q : Q (some (.int (nI (s / 12 % 8)))) (mh g k v pl br lo c ct pr pt cm bf bt)) : AC am_P 0 0 225 [.int (nI s)] (mh g k v pl br lo c ct pr pt cm bf bt) Q := by
  refine AC.of (ls := [_]) rfl ?_
  refine aw rfl rfl ?_
  refine aw_c (v := nI 12) rfl (by decide) ?_
  refine aw_divn rfl (by omega) (by omega) (by omega) ?_
  refine aw_c (v := nI 8) rfl (by decide) ?_
  refine aw_remn rfl (by omega) (by omega) (by omega) ?_
  exact aw_iret rfl rfl q
theorem c_X11_acrossOf {Q : Option Value → am_H → Prop} {s : Nat} (hs : s < 2147483648) (q : Q (some (.int (nI (s / 96)))) (mh g k v pl br lo c ct pr pt cm bf bt)) : AC am_P 0 0 226 [.int (nI s)] (mh g k v pl br lo c ct pr pt cm bf bt) Q := by
  refine AC.of (ls := [_]) rfl ?_
  refine aw rfl rfl ?_
  refine aw_c (v := nI 96) rfl (by decide) ?_
  refine aw_divn rfl (by omega) (by omega) (by omega) ?_
  exact aw_iret rfl rfl q
theorem c_X11_faceOf {Q : Option Value → am_H → Prop} {s : Nat} (hs : s < 2147483648) (q : Q (some (.int (nI (s / 4 % 3)))) (mh g k v pl br lo c ct pr pt cm bf bt)) : AC am_P 0 0 240 [.int (nI s)] (mh g k v pl br lo c ct pr pt cm bf bt) Q := by
  refine AC.of (ls := [_]) rfl ?_
  refine aw rfl rfl ?_
  refine aw_c (v := nI 4) rfl (by decide) ?_
  refine aw_divn rfl (by omega) (by omega) (by omega) ?_
  refine aw_c (v := nI 3) rfl (by decide) ?_
  refine aw_remn rfl (by omega) (by omega) (by omega) ?_
  exact aw_iret rfl rfl q
theorem c_X11_sortAt {Q : Option Value → am_H → Prop} {a e lv : Nat} (hl : k.1 18 = nI lv) (hi : 32 * lv + 8 * e + a < 64) (q : Q (some (.int (k.2.1 24 (32 * lv + 8 * e + a)))) (mh g k v pl br lo c ct pr pt cm bf bt)) : AC am_P 0 0 227 [.ref 121, .int (nI a), .int (nI e)] (mh g k v pl br lo c ct pr pt cm bf bt) Q := by
  refine AC.of (ls := [_, _, _]) rfl ?_
  refine aw rfl rfl ?_
  refine aw_getf rfl mg_121 rfl ?_
  refine aw_c (v := nI 32) rfl (by decide) ?_
  refine aw rfl rfl ?_
  refine aw_getfE rfl mg_121 rfl (congrArg Value.int hl) ?_
  refine aw_muln rfl ?_
  refine aw_c (v := nI 8) rfl (by decide) ?_
  refine aw rfl rfl ?_
  refine aw_muln rfl ?_
  refine aw_addn rfl ?_
  refine aw rfl rfl ?_
  refine aw_addn rfl ?_
  refine aw_iald rfl mg_132 rfl (by omega) (by decide) ?_
  exact aw_iret rfl rfl q
end M1
end
section
/-! ===== formulas and laws ===== -/
/-- a formula: what is pushed (0 an int, 1 a variable), what is joined (2 +, 3 -, 4 *, 5 /), in the order in which it is done -/
abbrev Ex : Type := List (Nat × Int32)
def ex_op (o : Nat) (a b : Int32) : Int32 := if o = 2 then a + b else if o = 3 then a - b else if o = 4 then a * b else a / b
/-- what it is; none where it divides by 0 -/
def ex_one : List Int32 → Option Int32
  | [x] => some x
  | _ => none
def ex_two (st : List Int32) (f : Int32 → Int32 → List Int32 → Option Int32) : Option Int32 := match st with
  | b :: a :: r => f b a r
  | _ => none
def ex_val (v : Nat → Int32) : Ex → List Int32 → Option Int32
  | [], st => ex_one st
  | (o, y) :: t, st => if o = 0 then ex_val v t (y :: st) else if o = 1 then ex_val v t (v y.toNatClampNeg :: st) else ex_two st fun b a r => if o = 5 ∧ b = 0 then none else ex_val v t (ex_op o a b :: r)
def ex_wf : Ex → Nat → Prop
  | [], d => d = 1
  | (o, y) :: t, d => if o = 0 then d < 30 ∧ ex_wf t (d + 1) else if o = 1 then d < 30 ∧ (∃ j : Nat, j < 7 ∧ y = nI j) ∧ ex_wf t (d + 1) else o ≤ 5 ∧ 2 ≤ d ∧ ex_wf t (d - 1)
/-- the reference's two rows hold it from c on -/
def ex_in (cd ci : Nat → Int32) : Nat → Ex → Prop
  | _, [] => True
  | c, (o, y) :: t => cd c = nI o ∧ ci c = y ∧ ex_in cd ci (c + 1) t
def ex_pl (pl : Nat → Int32) : List Int32 → Prop
  | [] => True
  | x :: r => pl r.length = x ∧ ex_pl pl r
theorem ex_pl_upd {pl : Nat → Int32} {x : Int32} : ∀ (st : List Int32) (i : Nat), st.length ≤ i → ex_pl pl st → ex_pl (upd pl i x) st := by
  intro st
  induction st with
  | nil => intro _ _ _; trivial
  | cons y r ih =>
    intro i hi hp
    have hl : (y :: r).length = r.length + 1 := rfl
    refine ⟨?_, ih i (by omega) hp.2⟩
    rw [pk_un (by omega)]
    exact hp.1
section M1
variable {g : am_H} {k : Mk} {v pl : Nat → Int32} {br lo : Int32} {c ct pr pt cm bf bt : Nat → Int32}
theorem l_termOf {Q : Option Value → am_H → Prop} {fr : Int32} : ∀ (e : Ex) (a : Nat) (st : List Int32) (pl : Nat → Int32) (l5 l6 l7 : Option Value) (_ : ex_in (k.2.1 46) (k.2.1 47) a e) (_ : ex_wf e st.length) (_ : ex_pl pl st) (_ : st.length ≤ 30) (_ : a + e.length ≤ 840) (_ : ∀ pl x, ex_val v e st = some x → Q (some (.int x)) (mh g k v pl br lo c ct pr pt cm bf bt)) (_ : ∀ pl, ex_val v e st = none → Q (some (.int (nI 0))) (mh g k v pl (nI 1) lo c ct pr pt cm bf bt)), AW am_P 0 0 234 5 [some (.ref 121), some (.int fr), some (.int (nI (a + e.length))), some (.int (nI st.length)), some (.int (nI a)), l5, l6, l7] [] (mh g k v pl br lo c ct pr pt cm bf bt) Q := by
  intro e
  induction e with
  | nil =>
    intro a st pl l5 l6 l7 hin hwf hpl hd hl q1 q0
    have hst : st.length = 1 := hwf
    obtain ⟨x, rfl⟩ : ∃ x, st = [x] := by
      match st, hst with
      | [x], _ => exact ⟨x, rfl⟩
    have hx : pl 0 = x := hpl.1
    have hl0 : a + ([] : Ex).length = a := rfl
    have ha : a ≤ 840 := hl
    refine aw rfl rfl ?_
    refine aw rfl rfl ?_
    refine aw_igen rfl (fun c8 => ?_) (fun c8 => absurd (Nat.le_refl a) c8)
    refine aw rfl rfl ?_
    refine aw_getf rfl mg_121 rfl ?_
    refine aw_c (v := nI 0) rfl (by decide) ?_
    refine aw_iald rfl mg_156 rfl (by omega) (by decide) ?_
    exact aw_iret rfl rfl (by rw [hx]; exact q1 _ _ rfl)
  | cons w t ih =>
    obtain ⟨o, y⟩ := w
    intro a st pl l5 l6 l7 hin hwf hpl hd hl q1 q0
    obtain ⟨hc, hy, hin⟩ := hin
    have hlen : ((o, y) :: t).length = t.length + 1 := rfl
    have hto : a + ((o, y) :: t).length = a + 1 + t.length := by rw [hlen]; omega
    rw [hlen] at hl
    rw [hto]
    by_cases h0 : o = 0
    · subst h0
      rw [ex_wf, if_pos rfl] at hwf
      have qe : ex_val v ((0, y) :: t) st = ex_val v t (y :: st) := by rw [ex_val, if_pos rfl]
      rw [qe] at q1 q0
      refine aw rfl rfl ?_
      refine aw rfl rfl ?_
      refine aw_igen rfl (fun c8 => by omega) (fun c8 => ?_)
      refine aw rfl rfl ?_
      refine aw_getf rfl mg_121 rfl ?_
      refine aw rfl rfl ?_
      refine aw_ialdE rfl mg_152 rfl (by omega) (by decide) hc ?_
      refine aw_ist (ls' := [_, _, _, _, _, _, _, _]) rfl rfl ?_
      refine aw rfl rfl ?_
      refine aw_c (v := nI 2) rfl (by decide) ?_
      refine aw_ige rfl (fun c => absurd c (by decide)) (fun _ => ?_)
      refine aw rfl rfl ?_
      refine aw_getf rfl mg_121 rfl ?_
      refine aw rfl rfl ?_
      refine aw rfl rfl ?_
      refine aw_ne rfl (fun c => absurd (by decide) c) (fun _ => ?_)
      refine aw rfl rfl ?_
      refine aw_getf rfl mg_121 rfl ?_
      refine aw rfl rfl ?_
      refine aw_ialdE rfl mg_153 rfl (by omega) (by decide) hy ?_
      refine aw rfl rfl ?_
      refine aw_iastU rfl mg_156 rfl (by omega) (by decide) (by decide) mu_156 ?_
      refine aw_incn (c := 1) (ls' := [_, _, _, _, _, _, _, _]) rfl rfl (by decide) rfl ?_
      refine aw rfl rfl ?_
      refine aw_incn (c := 1) (ls' := [_, _, _, _, _, _, _, _]) rfl rfl (by decide) rfl ?_
      refine aw rfl rfl ?_
      exact ih (a + 1) (y :: st) _ _ _ _ hin hwf.2 ⟨pk_us, ex_pl_upd st _ (Nat.le_refl _) hpl⟩ (by show st.length + 1 ≤ 30; omega) (by omega) q1 q0
    · by_cases h1 : o = 1
      · subst h1
        rw [ex_wf, if_neg h0, if_pos rfl] at hwf
        obtain ⟨hd2, ⟨j, hj, rfl⟩, hwf⟩ := hwf
        have qe : ex_val v ((1, nI j) :: t) st = ex_val v t (v j :: st) := by rw [ex_val, if_neg h0, if_pos rfl, nI_clamp (by omega)]
        rw [qe] at q1 q0
        refine aw rfl rfl ?_
        refine aw rfl rfl ?_
        refine aw_igen rfl (fun c8 => by omega) (fun c8 => ?_)
        refine aw rfl rfl ?_
        refine aw_getf rfl mg_121 rfl ?_
        refine aw rfl rfl ?_
        refine aw_ialdE rfl mg_152 rfl (by omega) (by decide) hc ?_
        refine aw_ist (ls' := [_, _, _, _, _, _, _, _]) rfl rfl ?_
        refine aw rfl rfl ?_
        refine aw_c (v := nI 2) rfl (by decide) ?_
        refine aw_ige rfl (fun c => absurd c (by decide)) (fun _ => ?_)
        refine aw rfl rfl ?_
        refine aw_getf rfl mg_121 rfl ?_
        refine aw rfl rfl ?_
        refine aw rfl rfl ?_
        refine aw_ne rfl (fun _ => ?_) (fun c => absurd c (by decide))
        refine aw rfl rfl ?_
        refine aw_getf rfl mg_121 rfl ?_
        refine aw rfl rfl ?_
        refine aw_getf rfl mg_121 rfl ?_
        refine aw rfl rfl ?_
        refine aw_ialdE rfl mg_153 rfl (by omega) (by decide) hy ?_
        refine aw_iald rfl mg_155 rfl (by omega) (by decide) ?_
        refine aw_iastU rfl mg_156 rfl (by omega) (by decide) (by decide) mu_156 ?_
        refine aw_incn (c := 1) (ls' := [_, _, _, _, _, _, _, _]) rfl rfl (by decide) rfl ?_
        refine aw rfl rfl ?_
        refine aw_incn (c := 1) (ls' := [_, _, _, _, _, _, _, _]) rfl rfl (by decide) rfl ?_
        refine aw rfl rfl ?_
        exact ih (a + 1) (v j :: st) _ _ _ _ hin hwf ⟨pk_us, ex_pl_upd st _ (Nat.le_refl _) hpl⟩ (by show st.length + 1 ≤ 30; omega) (by omega) q1 q0
      · rw [ex_wf, if_neg h0, if_neg h1] at hwf
        obtain ⟨ho5, hd2, hwf⟩ := hwf
        obtain ⟨b, x, r, rfl⟩ : ∃ b x r, st = b :: x :: r := by
          match st, hd2 with
          | b :: x :: r, _ => exact ⟨b, x, r, rfl⟩
        have hrl : (b :: x :: r).length = r.length + 2 := rfl
        have hb : pl (r.length + 1) = b := hpl.1
        have hx : pl r.length = x := hpl.2.1
        have hlx : r.length + 2 ≤ 30 := hd
        have hr2 : r.length + 2 - 1 = r.length + 1 := rfl
        have ih' : ∀ z pl' (l5 l6 l7 : Option Value), ex_pl pl' (z :: r) → (∀ pl x, ex_val v t (z :: r) = some x → Q (some (.int x)) (mh g k v pl br lo c ct pr pt cm bf bt)) → (∀ pl, ex_val v t (z :: r) = none → Q (some (.int (nI 0))) (mh g k v pl (nI 1) lo c ct pr pt cm bf bt)) → AW am_P 0 0 234 5 [some (.ref 121), some (.int fr), some (.int (nI (a + 1 + t.length))), some (.int (nI (r.length + 1))), some (.int (nI (a + 1))), l5, l6, l7] [] (mh g k v pl' br lo c ct pr pt cm bf bt) Q :=
          fun z pl' l5 l6 l7 hp q1 q0 => ih (a + 1) (z :: r) pl' l5 l6 l7 hin hwf hp (by show r.length + 1 ≤ 30; omega) (by omega) q1 q0
        have hpu : ∀ z, ex_pl (upd pl r.length z) (z :: r) := fun z => ⟨pk_us, ex_pl_upd r _ (Nat.le_refl _) hpl.2.2⟩
        by_cases e2 : o = 2
        · subst e2
          have qe : ex_val v ((2, y) :: t) (b :: x :: r) = ex_val v t ((x + b) :: r) := by rw [ex_val, if_neg h0, if_neg h1]; show (if 2 = 5 ∧ b = 0 then none else ex_val v t (ex_op 2 x b :: r)) = _; rw [if_neg (fun z => absurd z.1 (by decide))]; rfl
          rw [qe] at q1 q0
          refine aw rfl rfl ?_
          refine aw rfl rfl ?_
          refine aw_igen rfl (fun c8 => by omega) (fun c8 => ?_)
          refine aw rfl rfl ?_
          refine aw_getf rfl mg_121 rfl ?_
          refine aw rfl rfl ?_
          refine aw_ialdE rfl mg_152 rfl (by omega) (by decide) hc ?_
          refine aw_ist (ls' := [_, _, _, _, _, _, _, _]) rfl rfl ?_
          refine aw rfl rfl ?_
          refine aw_c (v := nI 2) rfl (by decide) ?_
          refine aw_ige rfl (fun _ => ?_) (fun c => absurd (by decide) c)
          refine aw_decn (c := 1) (ls' := [_, _, _, _, _, _, _, _]) rfl rfl (by decide) (by omega) rfl ?_
          refine aw rfl rfl ?_
          refine aw_getf rfl mg_121 rfl ?_
          refine aw rfl rfl ?_
          refine aw_c (v := nI 1) rfl (by decide) ?_
          refine aw_subn rfl (by omega) ?_
          refine aw_ialdE (k := r.length) rfl mg_156 rfl (by omega) (by decide) hx ?_
          refine aw_ist (ls' := [_, _, _, _, _, _, _, _]) rfl rfl ?_
          refine aw rfl rfl ?_
          refine aw_getf rfl mg_121 rfl ?_
          refine aw rfl rfl ?_
          refine aw_ialdE (k := r.length + 1) rfl mg_156 rfl (by omega) (by decide) hb ?_
          refine aw_ist (ls' := [_, _, _, _, _, _, _, _]) rfl rfl ?_
          refine aw rfl rfl ?_
          refine aw_c (v := nI 5) rfl (by decide) ?_
          refine aw_ine rfl (fun _ => ?_) (fun c => absurd c (by decide))
          refine aw rfl rfl ?_
          refine aw_getf rfl mg_121 rfl ?_
          refine aw rfl rfl ?_
          refine aw_c (v := nI 1) rfl (by decide) ?_
          refine aw_subn rfl (by omega) ?_
          refine aw rfl rfl ?_
          refine aw_c (v := nI 2) rfl (by decide) ?_
          refine aw_ine rfl (fun c => absurd (by decide) c) (fun _ => ?_)
          refine aw rfl rfl ?_
          refine aw rfl rfl ?_
          refine aw rfl rfl ?_
          refine aw rfl rfl ?_
          refine aw_iastU (k := r.length) rfl mg_156 rfl (by omega) (by decide) (by decide) mu_156 ?_
          refine aw_incn (c := 1) (ls' := [_, _, _, _, _, _, _, _]) rfl rfl (by decide) rfl ?_
          refine aw rfl rfl ?_
          exact ih' _ _ _ _ _ (hpu _) q1 q0
        by_cases e3 : o = 3
        · subst e3
          have qe : ex_val v ((3, y) :: t) (b :: x :: r) = ex_val v t ((x - b) :: r) := by rw [ex_val, if_neg h0, if_neg h1]; show (if 3 = 5 ∧ b = 0 then none else ex_val v t (ex_op 3 x b :: r)) = _; rw [if_neg (fun z => absurd z.1 (by decide))]; rfl
          rw [qe] at q1 q0
          refine aw rfl rfl ?_
          refine aw rfl rfl ?_
          refine aw_igen rfl (fun c8 => by omega) (fun c8 => ?_)
          refine aw rfl rfl ?_
          refine aw_getf rfl mg_121 rfl ?_
          refine aw rfl rfl ?_
          refine aw_ialdE rfl mg_152 rfl (by omega) (by decide) hc ?_
          refine aw_ist (ls' := [_, _, _, _, _, _, _, _]) rfl rfl ?_
          refine aw rfl rfl ?_
          refine aw_c (v := nI 2) rfl (by decide) ?_
          refine aw_ige rfl (fun _ => ?_) (fun c => absurd (by decide) c)
          refine aw_decn (c := 1) (ls' := [_, _, _, _, _, _, _, _]) rfl rfl (by decide) (by omega) rfl ?_
          refine aw rfl rfl ?_
          refine aw_getf rfl mg_121 rfl ?_
          refine aw rfl rfl ?_
          refine aw_c (v := nI 1) rfl (by decide) ?_
          refine aw_subn rfl (by omega) ?_
          refine aw_ialdE (k := r.length) rfl mg_156 rfl (by omega) (by decide) hx ?_
          refine aw_ist (ls' := [_, _, _, _, _, _, _, _]) rfl rfl ?_
          refine aw rfl rfl ?_
          refine aw_getf rfl mg_121 rfl ?_
          refine aw rfl rfl ?_
          refine aw_ialdE (k := r.length + 1) rfl mg_156 rfl (by omega) (by decide) hb ?_
          refine aw_ist (ls' := [_, _, _, _, _, _, _, _]) rfl rfl ?_
          refine aw rfl rfl ?_
          refine aw_c (v := nI 5) rfl (by decide) ?_
          refine aw_ine rfl (fun _ => ?_) (fun c => absurd c (by decide))
          refine aw rfl rfl ?_
          refine aw_getf rfl mg_121 rfl ?_
          refine aw rfl rfl ?_
          refine aw_c (v := nI 1) rfl (by decide) ?_
          refine aw_subn rfl (by omega) ?_
          refine aw rfl rfl ?_
          refine aw_c (v := nI 2) rfl (by decide) ?_
          refine aw_ine rfl (fun _ => ?_) (fun c => absurd c (by decide))
          refine aw rfl rfl ?_
          refine aw_c (v := nI 3) rfl (by decide) ?_
          refine aw_ine rfl (fun c => absurd (by decide) c) (fun _ => ?_)
          refine aw rfl rfl ?_
          refine aw rfl rfl ?_
          refine aw rfl rfl ?_
          refine aw rfl rfl ?_
          refine aw_iastU (k := r.length) rfl mg_156 rfl (by omega) (by decide) (by decide) mu_156 ?_
          refine aw_incn (c := 1) (ls' := [_, _, _, _, _, _, _, _]) rfl rfl (by decide) rfl ?_
          refine aw rfl rfl ?_
          exact ih' _ _ _ _ _ (hpu _) q1 q0
        by_cases e4 : o = 4
        · subst e4
          have qe : ex_val v ((4, y) :: t) (b :: x :: r) = ex_val v t ((x * b) :: r) := by rw [ex_val, if_neg h0, if_neg h1]; show (if 4 = 5 ∧ b = 0 then none else ex_val v t (ex_op 4 x b :: r)) = _; rw [if_neg (fun z => absurd z.1 (by decide))]; rfl
          rw [qe] at q1 q0
          refine aw rfl rfl ?_
          refine aw rfl rfl ?_
          refine aw_igen rfl (fun c8 => by omega) (fun c8 => ?_)
          refine aw rfl rfl ?_
          refine aw_getf rfl mg_121 rfl ?_
          refine aw rfl rfl ?_
          refine aw_ialdE rfl mg_152 rfl (by omega) (by decide) hc ?_
          refine aw_ist (ls' := [_, _, _, _, _, _, _, _]) rfl rfl ?_
          refine aw rfl rfl ?_
          refine aw_c (v := nI 2) rfl (by decide) ?_
          refine aw_ige rfl (fun _ => ?_) (fun c => absurd (by decide) c)
          refine aw_decn (c := 1) (ls' := [_, _, _, _, _, _, _, _]) rfl rfl (by decide) (by omega) rfl ?_
          refine aw rfl rfl ?_
          refine aw_getf rfl mg_121 rfl ?_
          refine aw rfl rfl ?_
          refine aw_c (v := nI 1) rfl (by decide) ?_
          refine aw_subn rfl (by omega) ?_
          refine aw_ialdE (k := r.length) rfl mg_156 rfl (by omega) (by decide) hx ?_
          refine aw_ist (ls' := [_, _, _, _, _, _, _, _]) rfl rfl ?_
          refine aw rfl rfl ?_
          refine aw_getf rfl mg_121 rfl ?_
          refine aw rfl rfl ?_
          refine aw_ialdE (k := r.length + 1) rfl mg_156 rfl (by omega) (by decide) hb ?_
          refine aw_ist (ls' := [_, _, _, _, _, _, _, _]) rfl rfl ?_
          refine aw rfl rfl ?_
          refine aw_c (v := nI 5) rfl (by decide) ?_
          refine aw_ine rfl (fun _ => ?_) (fun c => absurd c (by decide))
          refine aw rfl rfl ?_
          refine aw_getf rfl mg_121 rfl ?_
          refine aw rfl rfl ?_
          refine aw_c (v := nI 1) rfl (by decide) ?_
          refine aw_subn rfl (by omega) ?_
          refine aw rfl rfl ?_
          refine aw_c (v := nI 2) rfl (by decide) ?_
          refine aw_ine rfl (fun _ => ?_) (fun c => absurd c (by decide))
          refine aw rfl rfl ?_
          refine aw_c (v := nI 3) rfl (by decide) ?_
          refine aw_ine rfl (fun _ => ?_) (fun c => absurd c (by decide))
          refine aw rfl rfl ?_
          refine aw_c (v := nI 4) rfl (by decide) ?_
          refine aw_ine rfl (fun c => absurd (by decide) c) (fun _ => ?_)
          refine aw rfl rfl ?_
          refine aw rfl rfl ?_
          refine aw rfl rfl ?_
          refine aw rfl rfl ?_
          refine aw_iastU (k := r.length) rfl mg_156 rfl (by omega) (by decide) (by decide) mu_156 ?_
          refine aw_incn (c := 1) (ls' := [_, _, _, _, _, _, _, _]) rfl rfl (by decide) rfl ?_
          refine aw rfl rfl ?_
          exact ih' _ _ _ _ _ (hpu _) q1 q0
        by_cases e5 : o = 5
        · subst e5
          have qe : ¬ b = 0 → ex_val v ((5, y) :: t) (b :: x :: r) = ex_val v t ((x / b) :: r) := fun hz => by rw [ex_val, if_neg h0, if_neg h1]; show (if 5 = 5 ∧ b = 0 then none else ex_val v t (ex_op 5 x b :: r)) = _; rw [if_neg (fun z => hz z.2)]; rfl
          have qz : b = 0 → ex_val v ((5, y) :: t) (b :: x :: r) = none := fun hz => by rw [ex_val, if_neg h0, if_neg h1]; show (if 5 = 5 ∧ b = 0 then none else ex_val v t (ex_op 5 x b :: r)) = _; rw [if_pos ⟨rfl, hz⟩]
          refine aw rfl rfl ?_
          refine aw rfl rfl ?_
          refine aw_igen rfl (fun c8 => by omega) (fun c8 => ?_)
          refine aw rfl rfl ?_
          refine aw_getf rfl mg_121 rfl ?_
          refine aw rfl rfl ?_
          refine aw_ialdE rfl mg_152 rfl (by omega) (by decide) hc ?_
          refine aw_ist (ls' := [_, _, _, _, _, _, _, _]) rfl rfl ?_
          refine aw rfl rfl ?_
          refine aw_c (v := nI 2) rfl (by decide) ?_
          refine aw_ige rfl (fun _ => ?_) (fun c => absurd (by decide) c)
          refine aw_decn (c := 1) (ls' := [_, _, _, _, _, _, _, _]) rfl rfl (by decide) (by omega) rfl ?_
          refine aw rfl rfl ?_
          refine aw_getf rfl mg_121 rfl ?_
          refine aw rfl rfl ?_
          refine aw_c (v := nI 1) rfl (by decide) ?_
          refine aw_subn rfl (by omega) ?_
          refine aw_ialdE (k := r.length) rfl mg_156 rfl (by omega) (by decide) hx ?_
          refine aw_ist (ls' := [_, _, _, _, _, _, _, _]) rfl rfl ?_
          refine aw rfl rfl ?_
          refine aw_getf rfl mg_121 rfl ?_
          refine aw rfl rfl ?_
          refine aw_ialdE (k := r.length + 1) rfl mg_156 rfl (by omega) (by decide) hb ?_
          refine aw_ist (ls' := [_, _, _, _, _, _, _, _]) rfl rfl ?_
          refine aw rfl rfl ?_
          refine aw_c (v := nI 5) rfl (by decide) ?_
          refine aw_ine rfl (fun c => absurd (by decide) c) (fun _ => ?_)
          refine aw rfl rfl ?_
          refine aw_ne rfl (fun c94 => ?_) (fun c94 => ?_)
          · refine aw rfl rfl ?_
            refine aw_getf rfl mg_121 rfl ?_
            refine aw rfl rfl ?_
            refine aw_c (v := nI 1) rfl (by decide) ?_
            refine aw_subn rfl (by omega) ?_
            refine aw rfl rfl ?_
            refine aw_c (v := nI 2) rfl (by decide) ?_
            refine aw_ine rfl (fun _ => ?_) (fun c => absurd c (by decide))
            refine aw rfl rfl ?_
            refine aw_c (v := nI 3) rfl (by decide) ?_
            refine aw_ine rfl (fun _ => ?_) (fun c => absurd c (by decide))
            refine aw rfl rfl ?_
            refine aw_c (v := nI 4) rfl (by decide) ?_
            refine aw_ine rfl (fun _ => ?_) (fun c => absurd c (by decide))
            refine aw rfl rfl ?_
            refine aw rfl rfl ?_
            refine aw_idiv rfl c94 ?_
            refine aw_iastU (k := r.length) rfl mg_156 rfl (by omega) (by decide) (by decide) mu_156 ?_
            refine aw_incn (c := 1) (ls' := [_, _, _, _, _, _, _, _]) rfl rfl (by decide) rfl ?_
            refine aw rfl rfl ?_
            exact ih' _ _ _ _ _ (hpu _) (fun p x z => q1 p x ((qe c94).trans z)) (fun p z => q0 p ((qe c94).trans z))
          · refine aw rfl rfl ?_
            refine aw_c (v := nI 1) rfl (by decide) ?_
            refine aw_putfU rfl mg_121 rfl rfl (by decide) mp_52 ?_
            refine aw_c (v := nI 0) rfl (by decide) ?_
            exact aw_iret rfl rfl (q0 _ (qz c94))
        omega
theorem c_X11_termOf {Q : Option Value → am_H → Prop} {a : Nat} {e : Ex} (hin : ex_in (k.2.1 46) (k.2.1 47) a e) (hwf : ex_wf e 0) (hl : a + e.length ≤ 840) (q1 : ∀ pl x, ex_val v e [] = some x → Q (some (.int x)) (mh g k v pl br lo c ct pr pt cm bf bt)) (q0 : ∀ pl, ex_val v e [] = none → Q (some (.int (nI 0))) (mh g k v pl (nI 1) lo c ct pr pt cm bf bt)) : AC am_P 0 0 234 [.ref 121, .int (nI a), .int (nI (a + e.length))] (mh g k v pl br lo c ct pr pt cm bf bt) Q := by
  refine AC.of (ls := [_, _, _, _, _, _, _, _]) rfl ?_
  refine aw_c (v := nI 0) rfl (by decide) ?_
  refine aw_ist (ls' := [_, _, _, _, _, _, _, _]) rfl rfl ?_
  refine aw rfl rfl ?_
  refine aw_ist (ls' := [_, _, _, _, _, _, _, _]) rfl rfl ?_
  exact l_termOf e a [] pl _ _ _ hin hwf trivial (by decide) hl q1 q0
end M1
end
section
/-- a law: what is tested, what it is then *-/
abbrev Lw : Type := List (Option (Ex × Ex) × Ex)
def lw_2 (x y : Option Int32) (f : Int32 → Int32 → Int32) : Int32 := match x, y with
  | some x, some y => f x y
  | _, _ => nI 0
def lw_1 (x : Option Int32) : Int32 := match x with
  | some x => x
  | none => nI 0
def lw_val (v : Nat → Int32) : Lw → Int32
  | [] => nI 0
  | (none, e) :: _ => lw_1 (ex_val v e [])
  | (some w, e) :: t => lw_2 (ex_val v w.1 []) (ex_val v w.2 []) fun x y => if x < y then lw_1 (ex_val v e []) else lw_val v t
def lw_in (k : Mk) : Nat → Lw → Prop
  | _, [] => True
  | b, (none, e) :: t => k.2.1 40 b = nI 0 ∧ (∃ p : Nat, k.2.1 43 b = nI p ∧ k.2.1 44 b = nI (p + e.length) ∧ ex_in (k.2.1 46) (k.2.1 47) p e ∧ p + e.length ≤ 840) ∧ ex_wf e 0 ∧ lw_in k (b + 1) t
  | b, (some w, e) :: t => k.2.1 40 b = nI 1 ∧ (∃ p : Nat, k.2.1 41 b = nI p ∧ k.2.1 42 b = nI (p + w.1.length) ∧ k.2.1 43 b = nI (p + w.1.length + w.2.length) ∧ k.2.1 44 b = nI (p + w.1.length + w.2.length + e.length) ∧ ex_in (k.2.1 46) (k.2.1 47) p w.1 ∧ ex_in (k.2.1 46) (k.2.1 47) (p + w.1.length) w.2 ∧ ex_in (k.2.1 46) (k.2.1 47) (p + w.1.length + w.2.length) e ∧ p + w.1.length + w.2.length + e.length ≤ 840) ∧ ex_wf w.1 0 ∧ ex_wf w.2 0 ∧ ex_wf e 0 ∧ lw_in k (b + 1) t
section M1
variable {g : am_H} {k : Mk} {v pl : Nat → Int32} {br lo : Int32} {c ct pr pt cm bf bt : Nat → Int32}
theorem l_asks {Q : Option Value → am_H → Prop} {lv i : Nat} (hlv : lv < 2) (hi : i < 3) {l1 : Option Value} : ∀ (w : Lw) (b : Nat) (pl : Nat → Int32) (l4 l5 : Option Value) (_ : k.2.1 38 (3 * lv + i) = nI (b + w.length)) (_ : lw_in k b w) (_ : b + w.length ≤ 260) (_ : ∀ pl br, Q (some (.int (lw_val v w))) (mh g k v pl br lo c ct pr pt cm bf bt)), AW am_P 1 27 233 21 [some (.ref 121), l1, some (.int (nI (3 * lv + i))), some (.int (nI b)), l4, l5] [] (mh g k v pl (nI 0) lo c ct pr pt cm bf bt) Q := by
  intro w
  induction w with
  | nil =>
    intro b pl l4 l5 hL hin hb q
    have hb2 : b ≤ 260 := hb
    have hL2 : k.2.1 38 (3 * lv + i) = nI b := hL
    refine aw rfl rfl ?_
    refine aw rfl rfl ?_
    refine aw_getf rfl mg_121 rfl ?_
    refine aw rfl rfl ?_
    refine aw_ialdE rfl mg_146 rfl (by omega) (by decide) hL2 ?_
    refine aw_igen rfl (fun c28 => ?_) (fun c28 => absurd (Nat.le_refl b) c28)
    refine aw_c (v := nI 0) rfl (by decide) ?_
    exact aw_iret rfl rfl (q _ _)
  | cons z t ih =>
    obtain ⟨w, e⟩ := z
    intro b pl l4 l5 hL hin hb q
    have hlen : ((w, e) :: t).length = t.length + 1 := rfl
    rw [hlen] at hL hb
    have hL1 : k.2.1 38 (3 * lv + i) = nI (b + 1 + t.length) := by rw [hL]; congr 1; omega
    cases w with
    | none =>
      obtain ⟨ht, ⟨p, h43, h44, he, hp⟩, hwf, hin⟩ := hin
      have qv : lw_val v ((none, e) :: t) = lw_1 (ex_val v e []) := rfl
      rw [qv] at q
      refine aw rfl rfl ?_
      refine aw rfl rfl ?_
      refine aw_getf rfl mg_121 rfl ?_
      refine aw rfl rfl ?_
      refine aw_ialdE rfl mg_146 rfl (by omega) (by decide) hL ?_
      refine aw_igen rfl (fun c28 => by omega) (fun c28 => ?_)
      refine aw rfl rfl ?_
      refine aw_getf rfl mg_121 rfl ?_
      refine aw rfl rfl ?_
      refine aw_bald rfl mg_147 rfl (by omega) (by decide) ?_
      rw [ht]
      refine aw_eq rfl (fun _ => ?_) (fun c => absurd (by decide) c)
      refine aw rfl rfl ?_
      refine aw rfl rfl ?_
      refine aw_getf rfl mg_121 rfl ?_
      refine aw rfl rfl ?_
      refine aw_ialdE rfl mg_150 rfl (by omega) (by decide) h43 ?_
      refine aw rfl rfl ?_
      refine aw_getf rfl mg_121 rfl ?_
      refine aw rfl rfl ?_
      refine aw_ialdE rfl mg_151 rfl (by omega) (by decide) h44 ?_
      refine aw_cv (d1 := 0) (L1 := 0) rfl rfl mg_121 rfl rfl (by decide) (by decide) (Nat.le_of_ble_eq_true rfl) (c_X11_termOf he hwf (by omega) (fun pl x z3 => ?_) (fun pl z3 => ?_))
      · refine aw_ist (ls' := [_, _, _, _, _, _]) rfl rfl ?_
        refine aw rfl rfl ?_
        refine aw_getf rfl mg_121 rfl ?_
        refine aw_eq rfl (fun _ => ?_) (fun c => absurd (by decide) c)
        refine aw rfl rfl ?_
        exact aw_iret rfl rfl (by rw [z3] at q; exact q _ _)
      · refine aw_ist (ls' := [_, _, _, _, _, _]) rfl rfl ?_
        refine aw rfl rfl ?_
        refine aw_getf rfl mg_121 rfl ?_
        refine aw_eq rfl (fun c => absurd c (by decide)) (fun _ => ?_)
        refine aw_c (v := nI 0) rfl (by decide) ?_
        refine aw rfl rfl ?_
        exact aw_iret rfl rfl (by rw [z3] at q; exact q _ _)
    | some w =>
      obtain ⟨e1, e2⟩ := w
      obtain ⟨ht, ⟨p, h41, h42, h43, h44, he1, he2, he, hp⟩, hwf1, hwf2, hwf, hin⟩ := hin
      have hp : p + e1.length + e2.length + e.length ≤ 840 := hp
      have qv : lw_val v ((some (e1, e2), e) :: t) = lw_2 (ex_val v e1 []) (ex_val v e2 []) fun x y => if x < y then lw_1 (ex_val v e []) else lw_val v t := rfl
      rw [qv] at q
      refine aw rfl rfl ?_
      refine aw rfl rfl ?_
      refine aw_getf rfl mg_121 rfl ?_
      refine aw rfl rfl ?_
      refine aw_ialdE rfl mg_146 rfl (by omega) (by decide) hL ?_
      refine aw_igen rfl (fun c28 => by omega) (fun c28 => ?_)
      refine aw rfl rfl ?_
      refine aw_getf rfl mg_121 rfl ?_
      refine aw rfl rfl ?_
      refine aw_bald rfl mg_147 rfl (by omega) (by decide) ?_
      rw [ht]
      refine aw_eq rfl (fun c => absurd c (by decide)) (fun _ => ?_)
      refine aw rfl rfl ?_
      refine aw rfl rfl ?_
      refine aw_getf rfl mg_121 rfl ?_
      refine aw rfl rfl ?_
      refine aw_ialdE rfl mg_148 rfl (by omega) (by decide) h41 ?_
      refine aw rfl rfl ?_
      refine aw_getf rfl mg_121 rfl ?_
      refine aw rfl rfl ?_
      refine aw_ialdE rfl mg_149 rfl (by omega) (by decide) h42 ?_
      refine aw_cv (d1 := 0) (L1 := 0) rfl rfl mg_121 rfl rfl (by decide) (by decide) (Nat.le_of_ble_eq_true rfl) (c_X11_termOf he1 hwf1 (by omega) (fun pl x z1 => ?_) (fun pl z1 => ?_))
      · refine aw_ist (ls' := [_, _, _, _, _, _]) rfl rfl ?_
        refine aw rfl rfl ?_
        refine aw rfl rfl ?_
        refine aw_getf rfl mg_121 rfl ?_
        refine aw rfl rfl ?_
        refine aw_ialdE rfl mg_149 rfl (by omega) (by decide) h42 ?_
        refine aw rfl rfl ?_
        refine aw_getf rfl mg_121 rfl ?_
        refine aw rfl rfl ?_
        refine aw_ialdE rfl mg_150 rfl (by omega) (by decide) h43 ?_
        refine aw_cv (d1 := 0) (L1 := 0) rfl rfl mg_121 rfl rfl (by decide) (by decide) (Nat.le_of_ble_eq_true rfl) (c_X11_termOf he2 hwf2 (by omega) (fun pl x z2 => ?_) (fun pl z2 => ?_))
        · refine aw_ist (ls' := [_, _, _, _, _, _]) rfl rfl ?_
          refine aw rfl rfl ?_
          refine aw_getf rfl mg_121 rfl ?_
          refine aw_eq rfl (fun _ => ?_) (fun c => absurd (by decide) c)
          refine aw rfl rfl ?_
          refine aw rfl rfl ?_
          refine aw_ilt rfl (fun c89 => ?_) (fun c89 => ?_)
          · refine aw rfl rfl ?_
            refine aw rfl rfl ?_
            refine aw_getf rfl mg_121 rfl ?_
            refine aw rfl rfl ?_
            refine aw_ialdE rfl mg_150 rfl (by omega) (by decide) h43 ?_
            refine aw rfl rfl ?_
            refine aw_getf rfl mg_121 rfl ?_
            refine aw rfl rfl ?_
            refine aw_ialdE rfl mg_151 rfl (by omega) (by decide) h44 ?_
            refine aw_cv (d1 := 0) (L1 := 0) rfl rfl mg_121 rfl rfl (by decide) (by decide) (Nat.le_of_ble_eq_true rfl) (c_X11_termOf he hwf (by omega) (fun pl x z3 => ?_) (fun pl z3 => ?_))
            · refine aw_ist (ls' := [_, _, _, _, _, _]) rfl rfl ?_
              refine aw rfl rfl ?_
              refine aw_getf rfl mg_121 rfl ?_
              refine aw_eq rfl (fun _ => ?_) (fun c => absurd (by decide) c)
              refine aw rfl rfl ?_
              exact aw_iret rfl rfl (by rw [z1, z2] at q; exact Eq.mp (congrArg (fun y => Q (some (.int y)) _) (by show (if _ < _ then _ else _) = _; rw [if_pos c89, z3]; rfl)) (q _ _))
            · refine aw_ist (ls' := [_, _, _, _, _, _]) rfl rfl ?_
              refine aw rfl rfl ?_
              refine aw_getf rfl mg_121 rfl ?_
              refine aw_eq rfl (fun c => absurd c (by decide)) (fun _ => ?_)
              refine aw_c (v := nI 0) rfl (by decide) ?_
              refine aw rfl rfl ?_
              exact aw_iret rfl rfl (by rw [z1, z2] at q; exact Eq.mp (congrArg (fun y => Q (some (.int y)) _) (by show (if _ < _ then _ else _) = _; rw [if_pos c89, z3]; rfl)) (q _ _))
          · refine aw rfl rfl ?_
            refine aw_incn (c := 1) (ls' := [_, _, _, _, _, _]) rfl rfl (by decide) rfl ?_
            refine aw rfl rfl ?_
            exact ih (b + 1) _ _ _ hL1 hin (by omega) (fun pl br => by
              have q := q pl br
              rw [z1, z2] at q
              exact Eq.mp (congrArg (fun y => Q (some (.int y)) _) (by show (if _ < _ then _ else _) = _; rw [if_neg c89])) q)
        · refine aw_ist (ls' := [_, _, _, _, _, _]) rfl rfl ?_
          refine aw rfl rfl ?_
          refine aw_getf rfl mg_121 rfl ?_
          refine aw_eq rfl (fun c => absurd c (by decide)) (fun _ => ?_)
          refine aw_c (v := nI 0) rfl (by decide) ?_
          exact aw_iret rfl rfl (by rw [z1, z2] at q; exact q _ _)
      · refine aw_ist (ls' := [_, _, _, _, _, _]) rfl rfl ?_
        refine aw rfl rfl ?_
        refine aw rfl rfl ?_
        refine aw_getf rfl mg_121 rfl ?_
        refine aw rfl rfl ?_
        refine aw_ialdE rfl mg_149 rfl (by omega) (by decide) h42 ?_
        refine aw rfl rfl ?_
        refine aw_getf rfl mg_121 rfl ?_
        refine aw rfl rfl ?_
        refine aw_ialdE rfl mg_150 rfl (by omega) (by decide) h43 ?_
        refine aw_cv (d1 := 0) (L1 := 0) rfl rfl mg_121 rfl rfl (by decide) (by decide) (Nat.le_of_ble_eq_true rfl) (c_X11_termOf he2 hwf2 (by omega) (fun pl x z2 => ?_) (fun pl z2 => ?_))
        · refine aw_ist (ls' := [_, _, _, _, _, _]) rfl rfl ?_
          refine aw rfl rfl ?_
          refine aw_getf rfl mg_121 rfl ?_
          refine aw_eq rfl (fun c => absurd c (by decide)) (fun _ => ?_)
          refine aw_c (v := nI 0) rfl (by decide) ?_
          exact aw_iret rfl rfl (by rw [z1, z2] at q; exact q _ _)
        · refine aw_ist (ls' := [_, _, _, _, _, _]) rfl rfl ?_
          refine aw rfl rfl ?_
          refine aw_getf rfl mg_121 rfl ?_
          refine aw_eq rfl (fun c => absurd c (by decide)) (fun _ => ?_)
          refine aw_c (v := nI 0) rfl (by decide) ?_
          exact aw_iret rfl rfl (by rw [z1, z2] at q; exact q _ _)
theorem c_X11_asks {Q : Option Value → am_H → Prop} {lv i b : Nat} {w : Lw} (hl : k.1 18 = nI lv) (hlv : lv < 2) (hi : i < 3) (hF : k.2.1 37 (3 * lv + i) = nI b) (hL : k.2.1 38 (3 * lv + i) = nI (b + w.length)) (hin : lw_in k b w) (hb : b + w.length ≤ 260) (q : ∀ pl br, Q (some (.int (lw_val v w))) (mh g k v pl br lo c ct pr pt cm bf bt)) : AC am_P 1 27 233 [.ref 121, .int (nI i)] (mh g k v pl br lo c ct pr pt cm bf bt) Q := by
  refine AC.of (ls := [_, _, _, _, _, _]) rfl ?_
  refine aw_c (v := nI 3) rfl (by decide) ?_
  refine aw rfl rfl ?_
  refine aw_getfE rfl mg_121 rfl (congrArg Value.int hl) ?_
  refine aw_muln rfl ?_
  refine aw rfl rfl ?_
  refine aw_addn rfl ?_
  refine aw_ist (ls' := [_, _, _, _, _, _]) rfl rfl ?_
  refine aw rfl rfl ?_
  refine aw_c (v := nI 0) rfl (by decide) ?_
  refine aw_putfU rfl mg_121 rfl rfl (by decide) mp_52 ?_
  refine aw rfl rfl ?_
  refine aw_getf rfl mg_121 rfl ?_
  refine aw rfl rfl ?_
  refine aw_ialdE rfl mg_145 rfl (by omega) (by decide) hF ?_
  refine aw_ist (ls' := [_, _, _, _, _, _]) rfl rfl ?_
  exact l_asks hlv hi w b pl _ _ hL hin hb q
end M1
end
section
/-! ===== what both sides hold of a street ===== -/
def sm (f : Nat → Nat) : Nat → Nat
  | 0 => 0
  | n + 1 => sm f n + f n
def oc (T : Sd) (j : Nat) : Nat := (T.2 1 j).toNatClampNeg
def sx (T : Sd) (w : Nat) : Nat := (T.2 2 w).toNatClampNeg
/-- it may lie so -/
def lieOK (T : Sd) (l : Nat) : Prop := l < 96 ∧ l / 3 % 8 < T.1 0 ∧ l / 3 / 8 < T.1 1 ∧ l % 3 < T.1 2 ∧ ¬ T.2 0 (l / 3) = nI 4 ∧ ¬ T.2 0 (l / 3) = nI 5
/-- a street as a text without a fault tells it -/
def GS (T : Sd) : Prop := (1 ≤ T.1 0 ∧ T.1 0 ≤ 8) ∧ (1 ≤ T.1 1 ∧ T.1 1 ≤ 4) ∧ (1 ≤ T.1 2 ∧ T.1 2 ≤ 3) ∧ (1 ≤ T.1 3 ∧ T.1 3 ≤ 4) ∧ T.1 4 ≤ 2 ∧ (1 ≤ T.1 5 ∧ T.1 5 ≤ 99) ∧ T.1 6 ≤ 9999
  ∧ (∀ s, s < 32 → (s % 8 < T.1 0 ∧ s / 8 < T.1 1 → ∃ z : Nat, z ≤ 6 ∧ T.2 0 s = nI z) ∧ (¬ (s % 8 < T.1 0 ∧ s / 8 < T.1 1) → T.2 0 s = -1))
  ∧ (∀ j, j < T.1 3 → T.2 1 j = nI (oc T j) ∧ 1 ≤ oc T j ∧ oc T j ≤ 6 ∧ sm (fun o => sx T (6 * j + o)) (oc T j) = 6 ∧ ∀ o, o < oc T j → T.2 2 (6 * j + o) = nI (sx T (6 * j + o)) ∧ 1 ≤ sx T (6 * j + o) ∧ sx T (6 * j + o) ≤ 6 ∧ ∃ t : Nat, t ≤ 2 ∧ T.2 5 (6 * j + o) = nI t)
  ∧ T.2 2 24 = nI 6
  ∧ (∃ a e f : Nat, T.2 6 0 = nI a ∧ T.2 6 1 = nI e ∧ T.2 6 2 = nI f ∧ a < T.1 0 ∧ e < T.1 1 ∧ f < T.1 2 ∧ lieOK T ((e * 8 + a) * 3 + f))
  ∧ (∃ a e f : Nat, T.2 7 0 = nI a ∧ T.2 7 1 = nI e ∧ T.2 7 2 = nI f ∧ a < T.1 0 ∧ e < T.1 1 ∧ f < T.1 2 ∧ lieOK T ((e * 8 + a) * 3 + f))
def n_vs (g0 g1 g2 g3 g4 g5 g6 : Int32) : Nat → Int32 := fun j => if j = 0 then g0 else if j = 1 then g1 else if j = 2 then g2 else if j = 3 then g3 else if j = 4 then g4 else if j = 5 then g5 else g6
def lwf (W : Nat → Lw) : LWt := fun i g0 g1 g2 g3 g4 g5 g6 => lw_val (n_vs g0 g1 g2 g3 g4 g5 g6) (W i)
/-- the reference holds that street, on that side -/
def MR (k : Mk) (lv : Nat) (T : Sd) (W : Nat → Lw) : Prop := lv < 2 ∧ k.1 18 = nI lv ∧ k.2.1 22 lv = nI (T.1 1) ∧ k.2.1 23 lv = nI (T.1 0) ∧ k.2.1 25 lv = nI (T.1 2) ∧ k.2.1 26 lv = nI (T.1 3) ∧ k.2.1 34 lv = nI (T.1 4) ∧ k.2.1 35 lv = nI (T.1 5) ∧ k.2.1 36 lv = nI (T.1 6)
  ∧ (∀ a e, a < T.1 0 → e < T.1 1 → k.2.1 24 (32 * lv + 8 * e + a) = T.2 0 (e * 8 + a))
  ∧ (∀ j, j < T.1 3 → k.2.1 27 (4 * lv + j) = T.2 1 j)
  ∧ (∀ j o, j < T.1 3 → o < oc T j → k.2.1 28 (6 * (4 * lv + j) + o) = T.2 2 (6 * j + o) ∧ k.2.1 29 (6 * (4 * lv + j) + o) = T.2 3 (6 * j + o) ∧ k.2.1 30 (6 * (4 * lv + j) + o) = T.2 4 (6 * j + o) ∧ k.2.1 31 (6 * (4 * lv + j) + o) = T.2 5 (6 * j + o))
  ∧ (∀ i, i < 3 → k.2.1 32 (3 * lv + i) = T.2 6 i ∧ k.2.1 33 (3 * lv + i) = T.2 7 i)
  ∧ (∀ i, i < 3 → ∃ b : Nat, k.2.1 37 (3 * lv + i) = nI b ∧ k.2.1 38 (3 * lv + i) = nI (b + (W i).length) ∧ lw_in k b (W i) ∧ b + (W i).length ≤ 260)
theorem ex_val_congr {v v' : Nat → Int32} (hv : ∀ j, j < 7 → v j = v' j) : ∀ (e : Ex) (d : Nat) (st : List Int32), ex_wf e d → ex_val v e st = ex_val v' e st := by
  intro e
  induction e with
  | nil => intro d st _; rfl
  | cons w t ih =>
    obtain ⟨o, y⟩ := w
    intro d st h
    rw [ex_wf] at h
    rw [ex_val, ex_val]
    by_cases h0 : o = 0
    · rw [if_pos h0] at h
      rw [if_pos h0, if_pos h0]
      exact ih _ _ h.2
    · rw [if_neg h0] at h
      rw [if_neg h0, if_neg h0]
      by_cases h1 : o = 1
      · rw [if_pos h1] at h
        rw [if_pos h1, if_pos h1]
        obtain ⟨_, ⟨j, hj, rfl⟩, h⟩ := h
        rw [nI_clamp (by omega), hv j hj]
        exact ih _ _ h
      · rw [if_neg h1] at h
        rw [if_neg h1, if_neg h1]
        refine congrArg (ex_two st) (funext fun b => funext fun a => funext fun r => ?_)
        rw [ih _ _ h.2.2]
theorem lw_val_congr {k : Mk} {v v' : Nat → Int32} (hv : ∀ j, j < 7 → v j = v' j) : ∀ (w : Lw) (b : Nat), lw_in k b w → lw_val v w = lw_val v' w := by
  intro w
  induction w with
  | nil => intro _ _; rfl
  | cons z t ih =>
    obtain ⟨x, e⟩ := z
    intro b h
    cases x with
    | none =>
      obtain ⟨_, _, h, _⟩ := h
      rw [lw_val, lw_val, ex_val_congr hv _ _ _ h]
    | some w =>
      obtain ⟨_, _, h1, h2, h3, h⟩ := h
      rw [lw_val, lw_val, ex_val_congr hv _ _ _ h1, ex_val_congr hv _ _ _ h2, ex_val_congr hv _ _ _ h3, ih _ h]
theorem n_held_m {x m : Int32} (h1 : -m < m) : n_held x m = if x < -m then -m else if m < x then m else x := by
  unfold n_held
  by_cases h2 : x < -m
  · have h3 : x < m := Int32.lt_trans h2 h1
    rw [if_pos h3, if_pos h2, if_neg (fun z => absurd (Int32.lt_trans z h2) (Int32.lt_irrefl))]
  · rw [if_neg h2]
    by_cases h3 : m < x
    · have h4 : ¬ x < m := fun z => absurd (Int32.lt_trans z h3) (Int32.lt_irrefl)
      rw [if_neg h4, if_pos h1, if_pos h3]
    · rw [if_neg h3]
      by_cases h4 : x < m
      · rw [if_pos h4]
        by_cases h5 : -m < x
        · rw [if_pos h5]
        · rw [if_neg h5]
          exact Int32.le_antisymm (Int32.not_lt.mp h2) (Int32.not_lt.mp h5)
      · rw [if_neg h4, if_pos h1]
        exact Int32.le_antisymm (Int32.not_lt.mp h4) (Int32.not_lt.mp h3)
def lsg (l w : Nat) : Nat := if w = 0 then 384 else 4 * l + (w - 1)
section M1
variable {g : am_H} {k : Mk} {v pl : Nat → Int32} {br lo : Int32} {c ct pr pt cm bf bt : Nat → Int32}
variable {lv : Nat} {T : Sd} {W : Nat → Lw}
theorem c_al {Q : Option Value → am_H → Prop} {l w : Nat} (hl : l < 400) (hw : w < 4) (q : Q (some (.int (nI (l / 3 % 8)))) (mh g k v pl br lo c ct pr pt cm bf bt)) : AC am_P 0 0 225 [.int (nI (4 * l + w))] (mh g k v pl br lo c ct pr pt cm bf bt) Q := c_X11_alongOf (by omega) (by rw [show (4 * l + w) / 12 % 8 = l / 3 % 8 by omega]; exact q)
theorem c_ac {Q : Option Value → am_H → Prop} {l w : Nat} (hl : l < 400) (hw : w < 4) (q : Q (some (.int (nI (l / 3 / 8)))) (mh g k v pl br lo c ct pr pt cm bf bt)) : AC am_P 0 0 226 [.int (nI (4 * l + w))] (mh g k v pl br lo c ct pr pt cm bf bt) Q := c_X11_acrossOf (by omega) (by rw [show (4 * l + w) / 96 = l / 3 / 8 by omega]; exact q)
theorem c_fc {Q : Option Value → am_H → Prop} {l w : Nat} (hl : l < 400) (hw : w < 4) (q : Q (some (.int (nI (l % 3)))) (mh g k v pl br lo c ct pr pt cm bf bt)) : AC am_P 0 0 240 [.int (nI (4 * l + w))] (mh g k v pl br lo c ct pr pt cm bf bt) Q := c_X11_faceOf (by omega) (by rw [show (4 * l + w) / 4 % 3 = l % 3 by omega]; exact q)
theorem c_num {Q : Option Value → am_H → Prop} {s f w : Nat} (q : Q (some (.int (nI (4 * (s * 3 + f) + w)))) (mh g k v pl br lo c ct pr pt cm bf bt)) : AC am_P 0 0 222 [.int (nI (s % 8)), .int (nI (s / 8)), .int (nI f), .int (nI w)] (mh g k v pl br lo c ct pr pt cm bf bt) Q := c_X11_numberOf (by rw [show ((8 * (s / 8) + s % 8) * 3 + f) * 4 + w = 4 * (s * 3 + f) + w by omega]; exact q)
theorem c_X11_sortOf {Q : Option Value → am_H → Prop} {l w : Nat} (hl0 : k.1 18 = nI lv) (hlv : lv < 2) (hl : l < 96) (hw : w < 4) (q : Q (some (.int (k.2.1 24 (32 * lv + 8 * (l / 3 / 8) + l / 3 % 8)))) (mh g k v pl br lo c ct pr pt cm bf bt)) : AC am_P 1 22 224 [.ref 121, .int (nI (4 * l + w))] (mh g k v pl br lo c ct pr pt cm bf bt) Q := by
  refine AC.of (ls := [_, _]) rfl ?_
  refine aw rfl rfl ?_
  refine aw rfl rfl ?_
  refine aw_cs (d1 := 0) (L1 := 0) rfl rfl (by decide) (by decide) (Nat.le_of_ble_eq_true rfl) (c_al (by omega) (by omega) ?_)
  refine aw rfl rfl ?_
  refine aw_cs (d1 := 0) (L1 := 0) rfl rfl (by decide) (by decide) (Nat.le_of_ble_eq_true rfl) (c_ac (by omega) (by omega) ?_)
  refine aw_cv (d1 := 0) (L1 := 0) rfl rfl mg_121 rfl rfl (by decide) (by decide) (Nat.le_of_ble_eq_true rfl) (c_X11_sortAt hl0 (by omega) ?_)
  exact aw_iret rfl rfl q
theorem c_so {Q : Option Value → am_H → Prop} {l w : Nat} (hM : MR k lv T W) (hG : GS T) (hl : l < 96) (hw : w < 4) (ha : l / 3 % 8 < T.1 0) (he : l / 3 / 8 < T.1 1) (q : Q (some (.int (T.2 0 (l / 3)))) (mh g k v pl br lo c ct pr pt cm bf bt)) : AC am_P 1 22 224 [.ref 121, .int (nI (4 * l + w))] (mh g k v pl br lo c ct pr pt cm bf bt) Q := c_X11_sortOf hM.2.1 hM.1 hl hw (by rw [hM.2.2.2.2.2.2.2.2.2.1 _ _ ha he, show l / 3 / 8 * 8 + l / 3 % 8 = l / 3 by omega]; exact q)
theorem c_sa {Q : Option Value → am_H → Prop} {a e : Nat} (hM : MR k lv T W) (hG : GS T) (ha : a < T.1 0) (he : e < T.1 1) (q : Q (some (.int (T.2 0 (e * 8 + a)))) (mh g k v pl br lo c ct pr pt cm bf bt)) : AC am_P 0 0 227 [.ref 121, .int (nI a), .int (nI e)] (mh g k v pl br lo c ct pr pt cm bf bt) Q := by
  obtain ⟨m0, m1, mr, mw, mf, mk, mli, mt, ms, msq, moc, mwy, msp, mlw⟩ := hM
  obtain ⟨⟨g0, g0x⟩, ⟨g1, g1x⟩, ⟨g2, g2x⟩, ⟨g3, g3x⟩, g4, ⟨g5, g5x⟩, g6, gsq, goc, gwt, gsp, gfr⟩ := hG
  exact c_X11_sortAt m1 (by omega) (by rw [msq a e ha he]; exact q)
theorem c_X11_held {Q : Option Value → am_H → Prop} {x m : Int32} (hm : -m < m) (q : Q (some (.int (n_held x m))) (mh g k v pl br lo c ct pr pt cm bf bt)) : AC am_P 0 0 241 [.int x, .int m] (mh g k v pl br lo c ct pr pt cm bf bt) Q := by
  refine AC.of (ls := [_, _]) rfl ?_
  rw [n_held_m hm] at q
  refine aw rfl rfl ?_
  refine aw rfl rfl ?_
  refine aw rfl rfl ?_
  refine aw_ige rfl (fun c3 => ?_) (fun c3 => ?_)
  · refine aw rfl rfl ?_
    refine aw rfl rfl ?_
    refine aw_ile rfl (fun c13 => ?_) (fun c13 => ?_)
    · refine aw rfl rfl ?_
      exact aw_iret rfl rfl (by rw [if_neg (Int32.not_lt.mpr c3), if_neg (Int32.not_lt.mpr c13)] at q; exact q)
    · refine aw rfl rfl ?_
      refine aw rfl rfl ?_
      exact aw_iret rfl rfl (by rw [if_neg (Int32.not_lt.mpr c3), if_pos (Int32.not_le.mp c13)] at q; exact q)
  · refine aw rfl rfl ?_
    refine aw rfl rfl ?_
    refine aw rfl rfl ?_
    exact aw_iret rfl rfl (by rw [if_pos (Int32.not_le.mp c3)] at q; exact q)
theorem c_X11_losing {Q : Option Value → am_H → Prop} {l w : Nat} (hl : l < 96) (hw : w < 4) (q : Q (some (.int (nI (lsg l w)))) (mh g k v pl br lo c ct pr pt cm bf bt)) : AC am_P 0 0 242 [.int (nI (4 * l + w))] (mh g k v pl br lo c ct pr pt cm bf bt) Q := by
  refine AC.of (ls := [_]) rfl ?_
  refine aw rfl rfl ?_
  refine aw_c (v := nI 4) rfl (by decide) ?_
  refine aw_remn rfl (by omega) (by omega) (by omega) ?_
  refine aw_len rfl (fun c3 => ?_) (fun c3 => ?_)
  · refine aw_c (v := nI 384) rfl (by decide) ?_
    exact aw_iret rfl rfl (by rw [lsg, if_pos (by omega)] at q; exact q)
  · refine aw rfl rfl ?_
    refine aw_c (v := nI 1) rfl (by decide) ?_
    refine aw_subn rfl (by omega) ?_
    refine aw rfl rfl ?_
    exact aw_iret rfl rfl (by rw [lsg, if_neg (by omega)] at q; rw [show 4 * l + w - 1 = 4 * l + (w - 1) by omega]; exact q)
theorem c_asks {Q : Option Value → am_H → Prop} {i : Nat} (hM : MR k lv T W) (hG : GS T) (hi : i < 3) (q : ∀ pl br, Q (some (.int (lwf W i (v 0) (v 1) (v 2) (v 3) (v 4) (v 5) (v 6)))) (mh g k v pl br lo c ct pr pt cm bf bt)) : AC am_P 1 27 233 [.ref 121, .int (nI i)] (mh g k v pl br lo c ct pr pt cm bf bt) Q := by
  obtain ⟨m0, m1, mr, mw, mf, mk, mli, mt, ms, msq, moc, mwy, msp, mlw⟩ := hM
  obtain ⟨b, hb1, hb2, hb3, hb4⟩ := mlw i hi
  refine c_X11_asks m1 m0 hi hb1 hb2 hb3 hb4 (fun pl br => ?_)
  have e : lw_val v (W i) = lwf W i (v 0) (v 1) (v 2) (v 3) (v 4) (v 5) (v 6) := by
    refine lw_val_congr (fun j hj => ?_) _ _ hb3
    match j, hj with
    | 0, _ => rfl
    | 1, _ => rfl
    | 2, _ => rfl
    | 3, _ => rfl
    | 4, _ => rfl
    | 5, _ => rfl
    | 6, _ => rfl
  rw [e]
  exact q pl br
theorem c_X11_isBarred {Q : Option Value → am_H → Prop} (hM : MR k lv T W) (hG : GS T) {a e : Nat} {x : Int32} (ha : a < T.1 0) (he : e < T.1 1) (q1 : n_car T (lwf W) (e * 8 + a) x → ∀ v pl br, Q (some (.int (nI 1))) (mh g k v pl br lo c ct pr pt cm bf bt)) (q0 : ¬ n_car T (lwf W) (e * 8 + a) x → ∀ v pl br, Q (some (.int (nI 0))) (mh g k v pl br lo c ct pr pt cm bf bt)) : AC am_P 2 52 232 [.ref 121, .int (nI a), .int (nI e), .int x] (mh g k v pl br lo c ct pr pt cm bf bt) Q := by
  refine AC.of (ls := [_, _, _, _]) rfl ?_
  have hM0 := hM
  have hG0 := hG
  obtain ⟨m0, m1, mr, mw, mf, mk, mli, mt, ms, msq, moc, mwy, msp, mlw⟩ := hM
  obtain ⟨⟨g0, g0x⟩, ⟨g1, g1x⟩, ⟨g2, g2x⟩, ⟨g3, g3x⟩, g4, ⟨g5, g5x⟩, g6, gsq, goc, gwt, gsp, gfr⟩ := hG
  have ec : (0 < lwf W 2 (nI a) (nI e) (nI 0) (T.2 0 (e * 8 + a)) (-1) (nI 0) x) = n_car T (lwf W) (e * 8 + a) x := by rw [n_car, show (e * 8 + a) % 8 = a by omega, show (e * 8 + a) / 8 = e by omega]
  refine aw rfl rfl ?_
  refine aw_getf rfl mg_121 rfl ?_
  refine aw_c (v := nI 0) rfl (by decide) ?_
  refine aw rfl rfl ?_
  refine aw_iastU rfl mg_155 rfl (by omega) (by decide) (by decide) mu_155 ?_
  refine aw rfl rfl ?_
  refine aw_getf rfl mg_121 rfl ?_
  refine aw_c (v := nI 1) rfl (by decide) ?_
  refine aw rfl rfl ?_
  refine aw_iastU rfl mg_155 rfl (by omega) (by decide) (by decide) mu_155 ?_
  refine aw rfl rfl ?_
  refine aw_getf rfl mg_121 rfl ?_
  refine aw_c (v := nI 2) rfl (by decide) ?_
  refine aw_c (v := nI 0) rfl (by decide) ?_
  refine aw_iastU rfl mg_155 rfl (by omega) (by decide) (by decide) mu_155 ?_
  refine aw rfl rfl ?_
  refine aw_getf rfl mg_121 rfl ?_
  refine aw_c (v := nI 3) rfl (by decide) ?_
  refine aw rfl rfl ?_
  refine aw rfl rfl ?_
  refine aw rfl rfl ?_
  refine aw_cv (d1 := 0) (L1 := 0) rfl rfl mg_121 rfl rfl (by decide) (by decide) (Nat.le_of_ble_eq_true rfl) (c_sa hM0 hG0 ha he ?_)
  refine aw_iastU rfl mg_155 rfl (by omega) (by decide) (by decide) mu_155 ?_
  refine aw rfl rfl ?_
  refine aw_getf rfl mg_121 rfl ?_
  refine aw_c (v := nI 4) rfl (by decide) ?_
  refine aw_c (v := -1) rfl (by decide) ?_
  refine aw_iastU rfl mg_155 rfl (by omega) (by decide) (by decide) mu_155 ?_
  refine aw rfl rfl ?_
  refine aw_getf rfl mg_121 rfl ?_
  refine aw_c (v := nI 5) rfl (by decide) ?_
  refine aw_c (v := nI 0) rfl (by decide) ?_
  refine aw_iastU rfl mg_155 rfl (by omega) (by decide) (by decide) mu_155 ?_
  refine aw rfl rfl ?_
  refine aw_getf rfl mg_121 rfl ?_
  refine aw_c (v := nI 6) rfl (by decide) ?_
  refine aw rfl rfl ?_
  refine aw_iastU rfl mg_155 rfl (by omega) (by decide) (by decide) mu_155 ?_
  refine aw rfl rfl ?_
  refine aw_c (v := nI 2) rfl (by decide) ?_
  refine aw_cv (d1 := 1) (L1 := 27) rfl rfl mg_121 rfl rfl (by decide) (by decide) (Nat.le_of_ble_eq_true rfl) (c_asks hM0 hG0 (by decide) (fun pl br => ?_))
  refine aw_le rfl (fun c60 => ?_) (fun c60 => ?_)
  · refine aw_c (v := nI 0) rfl (by decide) ?_
    exact aw_iret rfl rfl (q0 (by rw [← ec]; exact Int32.not_lt.mpr c60) _ _ _)
  · refine aw_c (v := nI 1) rfl (by decide) ?_
    refine aw rfl rfl ?_
    exact aw_iret rfl rfl (q1 (by rw [← ec]; exact Int32.not_le.mp c60) _ _ _)
end M1
end
section
/-! ===== the reference: what comes of a kick, of a wait ===== -/
section M1
variable {g : am_H} {k : Mk} {v pl : Nat → Int32} {br lo : Int32} {c ct pr pt cm bf bt : Nat → Int32}
variable {lv : Nat} {T : Sd} {W : Nat → Lw}
theorem n_a2_m {T : Sd} {LW : LWt} {l way : Nat} {x : Int32} (h1 : 1 ≤ T.1 0) (h2 : T.1 0 ≤ 8) : ∃ a : Nat, a < T.1 0 ∧ n_a2 T LW l way x = nI a ∧ ((n_a1 T LW l way x < 0 ∧ a = 0) ∨ (nI (T.1 0) ≤ n_a1 T LW l way x ∧ a = T.1 0 - 1) ∨ (¬ n_a1 T LW l way x < 0 ∧ n_a1 T LW l way x = nI a)) := by
  unfold n_a2
  have e : nI (T.1 0) - nI 1 = nI (T.1 0 - 1) := pk_sub h1
  rw [e]
  generalize n_a1 T LW l way x = y
  by_cases h0 : y < 0
  · have h3 : y < nI (T.1 0 - 1) := Int32.lt_of_lt_of_le h0 (nI_le (a := 0) (Nat.zero_le _) (by omega))
    rw [if_pos h3, if_neg (show ¬ nI 0 < y from fun z => absurd (Int32.lt_trans z h0) Int32.lt_irrefl)]
    exact ⟨0, by omega, rfl, Or.inl ⟨h0, rfl⟩⟩
  · obtain ⟨j, hj, rfl⟩ := nI_of h0
    by_cases h3 : j < T.1 0 - 1
    · rw [if_pos (nI_lt h3 (by omega))]
      by_cases h4 : j = 0
      · subst h4
        rw [if_neg (fun z => absurd z Int32.lt_irrefl)]
        exact ⟨0, by omega, rfl, Or.inr (Or.inr ⟨h0, rfl⟩)⟩
      · rw [if_pos (nI_lt (by omega) (by omega))]
        exact ⟨j, by omega, rfl, Or.inr (Or.inr ⟨h0, rfl⟩)⟩
    · rw [if_neg (fun z => h3 ((nI_ltI (by omega) (by omega)).mp z))]
      have h5 : (if nI 0 < nI (T.1 0 - 1) then nI (T.1 0 - 1) else nI 0) = nI (T.1 0 - 1) := by
        by_cases h6 : T.1 0 - 1 = 0
        · rw [h6, if_neg (fun z => absurd z Int32.lt_irrefl)]
        · rw [if_pos (nI_lt (by omega) (by omega))]
      rw [h5]
      by_cases h7 : j = T.1 0 - 1
      · subst h7
        exact ⟨T.1 0 - 1, by omega, rfl, Or.inr (Or.inr ⟨h0, rfl⟩)⟩
      · exact ⟨T.1 0 - 1, by omega, rfl, Or.inr (Or.inl ⟨nI_le (by omega) (by omega), rfl⟩)⟩
theorem lie_in {T : Sd} {l : Nat} (h : lieOK T l) : l < 96 := h.1
theorem n_out {x : Int32} {n : Nat} (h1 : 1 ≤ n) (h2 : n < 2147483648) (h : ¬ nI 0 ≤ x ∨ ¬ x ≤ nI (n - 1)) : x < 0 ∨ nI n ≤ x := by
  by_cases h0 : x < 0
  · exact Or.inl h0
  · refine Or.inr ?_
    rcases h with h | h
    · exact absurd (Int32.not_lt.mp h0) h
    · obtain ⟨j, hj, rfl⟩ := nI_of h0
      refine nI_le ?_ hj
      have h3 : ¬ j ≤ n - 1 := fun z => h (nI_le z (by omega))
      omega
theorem c_X11_isPlace {Q : Option Value → am_H → Prop} (hM : MR k lv T W) (hG : GS T) {x y : Int32} (q1 : ∀ a e : Nat, x = nI a → y = nI e → a < T.1 0 → e < T.1 1 → Q (some (.int (nI 1))) (mh g k v pl br lo c ct pr pt cm bf bt)) (q0 : (x < 0 ∨ nI (T.1 0) ≤ x ∨ y < 0 ∨ nI (T.1 1) ≤ y) → Q (some (.int (nI 0))) (mh g k v pl br lo c ct pr pt cm bf bt)) : AC am_P 1 22 229 [.ref 121, .int x, .int y] (mh g k v pl br lo c ct pr pt cm bf bt) Q := by
  refine AC.of (ls := [_, _, _]) rfl ?_
  have hM0 := hM
  have hG0 := hG
  obtain ⟨m0, m1, mr, mw, mf, mk, mli, mt, ms, msq, moc, mwy, msp, mlw⟩ := hM
  obtain ⟨⟨g0, g0x⟩, ⟨g1, g1x⟩, ⟨g2, g2x⟩, ⟨g3, g3x⟩, g4, ⟨g5, g5x⟩, g6, gsq, goc, gwt, gsp, gfr⟩ := hG
  refine aw rfl rfl ?_
  refine aw_c (v := nI 0) rfl (by decide) ?_
  refine aw rfl rfl ?_
  refine aw_getf rfl mg_121 rfl ?_
  refine aw rfl rfl ?_
  refine aw_getfE rfl mg_121 rfl (congrArg Value.int m1) ?_
  refine aw_ialdE rfl mg_131 rfl (by omega) (by decide) mw ?_
  refine aw_c (v := nI 1) rfl (by decide) ?_
  refine aw_subn rfl (by omega) ?_
  refine aw_cs (d1 := 0) (L1 := 0) rfl rfl (by decide) (by decide) (Nat.le_of_ble_eq_true rfl) (c_X11_in (fun p1 p2 => ?_) (fun p => ?_))
  · refine aw_eq rfl (fun c => absurd c (by decide)) (fun _ => ?_)
    refine aw rfl rfl ?_
    refine aw_c (v := nI 0) rfl (by decide) ?_
    refine aw rfl rfl ?_
    refine aw_getf rfl mg_121 rfl ?_
    refine aw rfl rfl ?_
    refine aw_getfE rfl mg_121 rfl (congrArg Value.int m1) ?_
    refine aw_ialdE rfl mg_130 rfl (by omega) (by decide) mr ?_
    refine aw_c (v := nI 1) rfl (by decide) ?_
    refine aw_subn rfl (by omega) ?_
    refine aw_cs (d1 := 0) (L1 := 0) rfl rfl (by decide) (by decide) (Nat.le_of_ble_eq_true rfl) (c_X11_in (fun p3 p4 => ?_) (fun p => ?_))
    · refine aw_eq rfl (fun c => absurd c (by decide)) (fun _ => ?_)
      refine aw_c (v := nI 1) rfl (by decide) ?_
      refine aw rfl rfl ?_
      exact aw_iret rfl rfl (by obtain ⟨a, ha, rfl⟩ := nI_of (Int32.not_lt.mpr p1); obtain ⟨e, he, rfl⟩ := nI_of (Int32.not_lt.mpr p3); exact q1 a e rfl rfl (by have := (nI_leI (by omega) (by omega)).mp p2; omega) (by have := (nI_leI (by omega) (by omega)).mp p4; omega))
    · refine aw_eq rfl (fun _ => ?_) (fun c => absurd (by decide) c)
      refine aw_c (v := nI 0) rfl (by decide) ?_
      exact aw_iret rfl rfl (q0 (Or.inr (Or.inr (n_out (by omega) (by omega) p))))
  · refine aw_eq rfl (fun _ => ?_) (fun c => absurd (by decide) c)
    refine aw_c (v := nI 0) rfl (by decide) ?_
    exact aw_iret rfl rfl (q0 ((n_out (by omega) (by omega) p).elim Or.inl (fun z => Or.inr (Or.inl z))))
theorem c_X11_isSquare {Q : Option Value → am_H → Prop} (hM : MR k lv T W) (hG : GS T) {l w : Nat} (hl : l ≤ 96) (hw : w < 4) (q1 : lieOK T l → Q (some (.int (nI 1))) (mh g k v pl br lo c ct pr pt cm bf bt)) (q0 : ¬ lieOK T l → Q (some (.int (nI 0))) (mh g k v pl br lo c ct pr pt cm bf bt)) : AC am_P 2 43 257 [.ref 121, .int (nI (4 * l + w))] (mh g k v pl br lo c ct pr pt cm bf bt) Q := by
  refine AC.of (ls := [_, _]) rfl ?_
  have hM0 := hM
  have hG0 := hG
  obtain ⟨m0, m1, mr, mw, mf, mk, mli, mt, ms, msq, moc, mwy, msp, mlw⟩ := hM
  obtain ⟨⟨g0, g0x⟩, ⟨g1, g1x⟩, ⟨g2, g2x⟩, ⟨g3, g3x⟩, g4, ⟨g5, g5x⟩, g6, gsq, goc, gwt, gsp, gfr⟩ := hG
  refine aw rfl rfl ?_
  refine aw_cs (d1 := 0) (L1 := 0) rfl rfl (by decide) (by decide) (Nat.le_of_ble_eq_true rfl) (c_al (by omega) (by omega) ?_)
  refine aw rfl rfl ?_
  refine aw_getf rfl mg_121 rfl ?_
  refine aw rfl rfl ?_
  refine aw_getfE rfl mg_121 rfl (congrArg Value.int m1) ?_
  refine aw_ialdE rfl mg_131 rfl (by omega) (by decide) mw ?_
  refine aw_igen rfl (fun c13 => ?_) (fun c13 => ?_)
  · refine aw_c (v := nI 0) rfl (by decide) ?_
    exact aw_iret rfl rfl (q0 (fun z => absurd z.2.1 (by omega)))
  · refine aw rfl rfl ?_
    refine aw_cs (d1 := 0) (L1 := 0) rfl rfl (by decide) (by decide) (Nat.le_of_ble_eq_true rfl) (c_ac (by omega) (by omega) ?_)
    refine aw rfl rfl ?_
    refine aw_getf rfl mg_121 rfl ?_
    refine aw rfl rfl ?_
    refine aw_getfE rfl mg_121 rfl (congrArg Value.int m1) ?_
    refine aw_ialdE rfl mg_130 rfl (by omega) (by decide) mr ?_
    refine aw_igen rfl (fun c29 => ?_) (fun c29 => ?_)
    · refine aw_c (v := nI 0) rfl (by decide) ?_
      exact aw_iret rfl rfl (q0 (fun z => absurd z.2.2.1 (by omega)))
    · refine aw rfl rfl ?_
      refine aw_cs (d1 := 0) (L1 := 0) rfl rfl (by decide) (by decide) (Nat.le_of_ble_eq_true rfl) (c_fc (by omega) (by omega) ?_)
      refine aw rfl rfl ?_
      refine aw_getf rfl mg_121 rfl ?_
      refine aw rfl rfl ?_
      refine aw_getfE rfl mg_121 rfl (congrArg Value.int m1) ?_
      refine aw_ialdE rfl mg_133 rfl (by omega) (by decide) mf ?_
      refine aw_igen rfl (fun c45 => ?_) (fun c45 => ?_)
      · refine aw_c (v := nI 0) rfl (by decide) ?_
        exact aw_iret rfl rfl (q0 (fun z => absurd z.2.2.2.1 (by omega)))
      · refine aw rfl rfl ?_
        refine aw rfl rfl ?_
        refine aw_cv (d1 := 1) (L1 := 22) rfl rfl mg_121 rfl rfl (by decide) (by decide) (Nat.le_of_ble_eq_true rfl) (c_so hM0 hG0 (by omega) hw (by omega) (by omega) ?_)
        refine aw_c (v := nI 4) rfl (by decide) ?_
        refine aw_ieq rfl (fun c54 => ?_) (fun c54 => ?_)
        · refine aw_c (v := nI 0) rfl (by decide) ?_
          exact aw_iret rfl rfl (q0 (fun z => z.2.2.2.2.1 c54))
        · refine aw rfl rfl ?_
          refine aw rfl rfl ?_
          refine aw_cv (d1 := 1) (L1 := 22) rfl rfl mg_121 rfl rfl (by decide) (by decide) (Nat.le_of_ble_eq_true rfl) (c_so hM0 hG0 (by omega) hw (by omega) (by omega) ?_)
          refine aw_c (v := nI 5) rfl (by decide) ?_
          refine aw_ieq rfl (fun c63 => ?_) (fun c63 => ?_)
          · refine aw_c (v := nI 0) rfl (by decide) ?_
            exact aw_iret rfl rfl (q0 (fun z => z.2.2.2.2.2 c63))
          · refine aw_c (v := nI 1) rfl (by decide) ?_
            refine aw rfl rfl ?_
            exact aw_iret rfl rfl (q1 ⟨by omega, by omega, by omega, by omega, c54, c63⟩)
def m_ck (T : Sd) (l j : Nat) : Prop := ¬ T.2 0 (l / 3) = nI 3 ∨ oc T j = 1
theorem c_X11_canKick {Q : Option Value → am_H → Prop} (hM : MR k lv T W) (hG : GS T) {l w j : Nat} (hl : lieOK T l) (hw : w < 4) (hj : j < T.1 3) (q1 : m_ck T l j → Q (some (.int (nI 1))) (mh g k v pl br lo c ct pr pt cm bf bt)) (q0 : ¬ m_ck T l j → Q (some (.int (nI 0))) (mh g k v pl br lo c ct pr pt cm bf bt)) : AC am_P 2 43 237 [.ref 121, .int (nI (4 * l + w)), .int (nI j)] (mh g k v pl br lo c ct pr pt cm bf bt) Q := by
  refine AC.of (ls := [_, _, _]) rfl ?_
  have hM0 := hM
  have hG0 := hG
  obtain ⟨m0, m1, mr, mw, mf, mk, mli, mt, ms, msq, moc, mwy, msp, mlw⟩ := hM
  obtain ⟨⟨g0, g0x⟩, ⟨g1, g1x⟩, ⟨g2, g2x⟩, ⟨g3, g3x⟩, g4, ⟨g5, g5x⟩, g6, gsq, goc, gwt, gsp, gfr⟩ := hG
  have hl96 := hl.1
  have hx := goc j hj
  have hoc : k.2.1 27 (4 * lv + j) = nI (oc T j) := (moc j hj).trans hx.1
  have hx1 := hx.2.1
  have hx2 := hx.2.2.1
  refine aw rfl rfl ?_
  refine aw rfl rfl ?_
  refine aw_cv (d1 := 1) (L1 := 22) rfl rfl mg_121 rfl rfl (by decide) (by decide) (Nat.le_of_ble_eq_true rfl) (c_so hM0 hG0 (by omega) hw hl.2.1 hl.2.2.1 ?_)
  refine aw_c (v := nI 3) rfl (by decide) ?_
  refine aw_ine rfl (fun c6 => ?_) (fun c6 => ?_)
  · refine aw_c (v := nI 1) rfl (by decide) ?_
    refine aw rfl rfl ?_
    exact aw_iret rfl rfl (q1 (Or.inl c6))
  · refine aw rfl rfl ?_
    refine aw_getf rfl mg_121 rfl ?_
    refine aw_c (v := nI 4) rfl (by decide) ?_
    refine aw rfl rfl ?_
    refine aw_getfE rfl mg_121 rfl (congrArg Value.int m1) ?_
    refine aw_muln rfl ?_
    refine aw rfl rfl ?_
    refine aw_addn rfl ?_
    refine aw_ialdE rfl mg_135 rfl (by omega) (by decide) hoc ?_
    refine aw_c (v := nI 1) rfl (by decide) ?_
    refine aw_inen rfl (fun c23 => ?_) (fun c23 => ?_)
    · refine aw_c (v := nI 0) rfl (by decide) ?_
      exact aw_iret rfl rfl (q0 (fun z => z.elim (fun z => z c6) (fun z => c23 z)))
    · refine aw_c (v := nI 1) rfl (by decide) ?_
      refine aw rfl rfl ?_
      exact aw_iret rfl rfl (q1 (Or.inr c23))
theorem n_land_i {T : Sd} {LW : LWt} {l : Nat} {x : Int32} : n_land T LW l 24 x = if n_car T LW (l / 3) (x + nI (T.1 5)) then -1 else nI l := n_land_w rfl
theorem c_X11_waited {Q : Option Value → am_H → Prop} (hM : MR k lv T W) (hG : GS T) {l w : Nat} {x : Int32} (hl : lieOK T l) (hw : w < 4) (q1 : n_land T (lwf W) l 24 x = -1 → ∀ v pl br, Q (some (.int (nI (lsg l w)))) (mh g k v pl br lo c ct pr pt cm bf bt)) (q0 : n_land T (lwf W) l 24 x = nI l → ∀ v pl br, Q (some (.int (nI (4 * l + w)))) (mh g k v pl br lo c ct pr pt cm bf bt)) : AC am_P 3 75 247 [.ref 121, .int (nI (4 * l + w)), .int x] (mh g k v pl br lo c ct pr pt cm bf bt) Q := by
  refine AC.of (ls := [_, _, _]) rfl ?_
  have hM0 := hM
  have hG0 := hG
  obtain ⟨m0, m1, mr, mw, mf, mk, mli, mt, ms, msq, moc, mwy, msp, mlw⟩ := hM
  obtain ⟨⟨g0, g0x⟩, ⟨g1, g1x⟩, ⟨g2, g2x⟩, ⟨g3, g3x⟩, g4, ⟨g5, g5x⟩, g6, gsq, goc, gwt, gsp, gfr⟩ := hG
  have hl96 := hl.1
  have ha := hl.2.1
  have he := hl.2.2.1
  rw [n_land_i] at q1 q0
  have el : l / 3 / 8 * 8 + l / 3 % 8 = l / 3 := by omega
  refine aw rfl rfl ?_
  refine aw rfl rfl ?_
  refine aw_cs (d1 := 0) (L1 := 0) rfl rfl (by decide) (by decide) (Nat.le_of_ble_eq_true rfl) (c_al (by omega) (by omega) ?_)
  refine aw rfl rfl ?_
  refine aw_cs (d1 := 0) (L1 := 0) rfl rfl (by decide) (by decide) (Nat.le_of_ble_eq_true rfl) (c_ac (by omega) (by omega) ?_)
  refine aw rfl rfl ?_
  refine aw rfl rfl ?_
  refine aw_getf rfl mg_121 rfl ?_
  refine aw rfl rfl ?_
  refine aw_getfE rfl mg_121 rfl (congrArg Value.int m1) ?_
  refine aw_ialdE rfl mg_143 rfl (by omega) (by decide) mt ?_
  refine aw rfl rfl ?_
  refine aw_cv (d1 := 2) (L1 := 52) rfl rfl mg_121 rfl rfl (by decide) (by decide) (Nat.le_of_ble_eq_true rfl) (c_X11_isBarred hM0 hG0 ha he (fun z v pl br => ?_) (fun z v pl br => ?_))
  · refine aw_eq rfl (fun c => absurd c (by decide)) (fun _ => ?_)
    refine aw rfl rfl ?_
    refine aw_cs (d1 := 0) (L1 := 0) rfl rfl (by decide) (by decide) (Nat.le_of_ble_eq_true rfl) (c_X11_losing (by omega) (by omega) ?_)
    refine aw rfl rfl ?_
    exact aw_iret rfl rfl (q1 (if_pos (by rw [el] at z; exact z)) _ _ _)
  · refine aw_eq rfl (fun _ => ?_) (fun c => absurd (by decide) c)
    refine aw rfl rfl ?_
    exact aw_iret rfl rfl (q0 (if_neg (by rw [el] at z; exact z)) _ _ _)
theorem n_land_out {T : Sd} {LW : LWt} {l way a : Nat} {x : Int32} (hG : GS T) (hw : ¬ way = 24) (hA : n_a2 T LW l way x = nI a) (ha : a < T.1 0) (hC : n_c1 T LW l way x < 0 ∨ nI (T.1 1) ≤ n_c1 T LW l way x) : n_land T LW l way x = -1 := by
  obtain ⟨⟨g0, g0x⟩, ⟨g1, g1x⟩, ⟨g2, g2x⟩, ⟨g3, g3x⟩, g4, ⟨g5, g5x⟩, g6, gsq, goc, gwt, gsp, gfr⟩ := hG
  by_cases h1 : n_c1 T LW l way x < 0 ∨ nI 4 ≤ n_c1 T LW l way x
  · exact n_land_o hw h1
  · obtain ⟨e, he, ee⟩ := nI_of (fun z => h1 (Or.inl z))
    have h4 : e < 4 := by
      rcases Nat.lt_or_ge e 4 with z | z
      · exact z
      · exact absurd (Or.inr (by rw [ee]; exact nI_le z he)) h1
    have h5 : T.1 1 ≤ e := by
      rcases hC with z | z
      · exact absurd (Or.inl z) h1
      · rw [ee] at z
        exact (nI_leI (by omega) he).mp z
    have h6 : T.2 0 (e * 8 + a) = -1 := (gsq (e * 8 + a) (by omega)).2 (by omega)
    rw [n_land_k hw hA ee (by omega) h4, if_neg (by rw [h6]; decide), if_pos (Or.inl h6)]
theorem n_land_wall {T : Sd} {LW : LWt} {l way a e : Nat} {x : Int32} (hw : ¬ way = 24) (hA : n_a2 T LW l way x = nI a) (hC : n_c1 T LW l way x = nI e) (ha : a < 8) (he : e < 4) (h : T.2 0 (e * 8 + a) = nI 5) : n_land T LW l way x = nI (l / 3 * 3 + n_tn T l way) := by
  rw [n_land_k hw hA hC ha he, if_pos h]
theorem n_land_gut {T : Sd} {LW : LWt} {l way a e : Nat} {x : Int32} (hw : ¬ way = 24) (hA : n_a2 T LW l way x = nI a) (hC : n_c1 T LW l way x = nI e) (ha : a < 8) (he : e < 4) (h : T.2 0 (e * 8 + a) = nI 4) : n_land T LW l way x = -1 := by
  rw [n_land_k hw hA hC ha he, if_neg (by rw [h]; decide), if_pos (Or.inr h)]
theorem n_land_car {T : Sd} {LW : LWt} {l way a e : Nat} {x : Int32} (hw : ¬ way = 24) (hA : n_a2 T LW l way x = nI a) (hC : n_c1 T LW l way x = nI e) (ha : a < 8) (he : e < 4) (h5 : ¬ T.2 0 (e * 8 + a) = nI 5) (h6 : ¬ T.2 0 (e * 8 + a) = nI 6) (h : n_car T LW (e * 8 + a) (x + nI (T.1 5))) : n_land T LW l way x = -1 := by
  rw [n_land_k hw hA hC ha he, if_neg h5]
  by_cases h7 : T.2 0 (e * 8 + a) = -1 ∨ T.2 0 (e * 8 + a) = nI 4
  · rw [if_pos h7]
  · rw [if_neg h7, if_pos ⟨h6, h⟩]
theorem n_land_on {T : Sd} {LW : LWt} {l way a e : Nat} {x : Int32} (hw : ¬ way = 24) (hA : n_a2 T LW l way x = nI a) (hC : n_c1 T LW l way x = nI e) (ha : a < 8) (he : e < 4) (h1 : ¬ T.2 0 (e * 8 + a) = -1) (h4 : ¬ T.2 0 (e * 8 + a) = nI 4) (h5 : ¬ T.2 0 (e * 8 + a) = nI 5) (h : T.2 0 (e * 8 + a) = nI 6 ∨ ¬ n_car T LW (e * 8 + a) (x + nI (T.1 5))) : n_land T LW l way x = nI ((e * 8 + a) * 3 + n_tn T l way) := by
  rw [n_land_k hw hA hC ha he, if_neg h5, if_neg (fun z => z.elim h1 h4), if_neg (fun z => h.elim z.1 (fun w => w z.2))]
theorem lie_wall {T : Sd} {l t : Nat} (hl : lieOK T l) (ht : t < T.1 2) (h3 : T.1 2 ≤ 3) : lieOK T (l / 3 * 3 + t) := by
  obtain ⟨h0, h1, h2, h4, h5, h6⟩ := hl
  have e : (l / 3 * 3 + t) / 3 = l / 3 := by omega
  have e2 : (l / 3 * 3 + t) % 3 = t := by omega
  unfold lieOK
  rw [e, e2]
  exact ⟨by omega, h1, h2, ht, h5, h6⟩
theorem lie_on {T : Sd} {a e t : Nat} (ha : a < T.1 0) (he : e < T.1 1) (ht : t < T.1 2) (h8 : T.1 0 ≤ 8) (h44 : T.1 1 ≤ 4) (h3 : T.1 2 ≤ 3) (h5 : ¬ T.2 0 (e * 8 + a) = nI 4) (h6 : ¬ T.2 0 (e * 8 + a) = nI 5) : lieOK T ((e * 8 + a) * 3 + t) := by
  have e1 : ((e * 8 + a) * 3 + t) / 3 = e * 8 + a := by omega
  have e2 : ((e * 8 + a) * 3 + t) % 3 = t := by omega
  unfold lieOK
  rw [e1, e2]
  exact ⟨by omega, by omega, by omega, ht, h5, h6⟩
set_option maxRecDepth 4000 in
theorem l_brought {Q : Option Value → am_H → Prop} (hM : MR k lv T W) (hG : GS T) {l w j o : Nat} {x : Int32} (hl : lieOK T l) (hw : w < 4) (hj : j < T.1 3) (ho : o < oc T j) (q1 : n_land T (lwf W) l (6 * j + o) x = -1 → ∀ v pl br, Q (some (.int (nI (lsg l w)))) (mh g k v pl br (nI 1) c ct pr pt cm bf bt)) (q0 : ∀ m, n_land T (lwf W) l (6 * j + o) x = nI m → lieOK T m → ∀ v pl br, Q (some (.int (nI (4 * m + w)))) (mh g k v pl br (nI 0) c ct pr pt cm bf bt)) {a : Nat} (ha : a < T.1 0) (hA : n_a2 T (lwf W) l (6 * j + o) x = nI a) {l5 l8 l12 : Option Value} : AW am_P 3 75 239 198 [some (.ref 121), some (.int (nI (4 * l + w))), some (.int (nI j)), some (.int (nI o)), some (.int x), l5, some (.int (nI (l / 3 % 8))), some (.int (nI (l / 3 / 8))), l8, some (.int (nI a)), some (.int (n_c1 T (lwf W) l (6 * j + o) x)), some (.int (nI (n_tn T l (6 * j + o)))), l12] [] (mh g k v pl br lo c ct pr pt cm bf bt) Q := by
  have hM0 := hM
  have hG0 := hG
  obtain ⟨m0, m1, mr, mw, mf, mk, mli, mt, ms, msq, moc, mwy, msp, mlw⟩ := hM
  obtain ⟨⟨g0, g0x⟩, ⟨g1, g1x⟩, ⟨g2, g2x⟩, ⟨g3, g3x⟩, g4, ⟨g5, g5x⟩, g6, gsq, goc, gwt, gsp, gfr⟩ := hG
  have hl96 := hl.1
  have hg := goc j hj
  have ho6 := hg.2.2.1
  have hgo := hg.2.2.2.2 o ho
  obtain ⟨t, ht, et⟩ := hgo.2.2.2
  have hwy := mwy j o hj ho
  have hw24 : ¬ 6 * j + o = 24 := by omega
  have etn : n_tn T l (6 * j + o) = (l % 3 + t) % T.1 2 := by unfold n_tn; rw [et, nI_clamp (by omega)]
  have htn : n_tn T l (6 * j + o) < T.1 2 := by rw [etn]; exact Nat.mod_lt _ (by omega)
  have ew : (4 * l + w) % 4 = w := by omega
  generalize hC : n_c1 T (lwf W) l (6 * j + o) x = C
  refine aw rfl rfl ?_
  refine aw rfl rfl ?_
  refine aw_c (v := nI 0) rfl (by decide) ?_
  refine aw rfl rfl ?_
  refine aw_getf rfl mg_121 rfl ?_
  refine aw rfl rfl ?_
  refine aw_getfE rfl mg_121 rfl (congrArg Value.int m1) ?_
  refine aw_ialdE rfl mg_130 rfl (by omega) (by decide) mr ?_
  refine aw_c (v := nI 1) rfl (by decide) ?_
  refine aw_subn rfl (by omega) ?_
  refine aw_cs (d1 := 0) (L1 := 0) rfl rfl (by decide) (by decide) (Nat.le_of_ble_eq_true rfl) (c_X11_in (fun p1 p2 => ?_) (fun p => ?_))
  · try (obtain ⟨e, he0, rfl⟩ := nI_of (Int32.not_lt.mpr p1); have he : e < T.1 1 := (by have := (nI_leI (by omega) (by omega)).mp p2; omega))
    refine aw_ne rfl (fun _ => ?_) (fun c => absurd c (by decide))
    refine aw_c (v := nI 0) rfl (by decide) ?_
    refine aw_putfU rfl mg_121 rfl rfl (by decide) mp_55 ?_
    refine aw rfl rfl ?_
    refine aw_getf rfl mg_121 rfl ?_
    refine aw_eq rfl (fun _ => ?_) (fun c => absurd (by decide) c)
    refine aw rfl rfl ?_
    refine aw rfl rfl ?_
    refine aw rfl rfl ?_
    refine aw_cv (d1 := 0) (L1 := 0) rfl rfl mg_121 rfl rfl (by decide) (by decide) (Nat.le_of_ble_eq_true rfl) (c_sa hM0 hG0 ha he ?_)
    refine aw_ist (ls' := [_, _, _, _, _, _, _, _, _, _, _, _, _]) rfl rfl ?_
    refine aw rfl rfl ?_
    refine aw_c (v := nI 5) rfl (by decide) ?_
    refine aw_ine rfl (fun c252 => ?_) (fun c252 => ?_)
    · refine aw rfl rfl ?_
      refine aw rfl rfl ?_
      refine aw_c (v := nI 4) rfl (by decide) ?_
      refine aw_ieq rfl (fun c272 => ?_) (fun c272 => ?_)
      · refine aw_c (v := nI 1) rfl (by decide) ?_
        refine aw rfl rfl ?_
        refine aw_putfU rfl mg_121 rfl rfl (by decide) mp_55 ?_
        refine aw rfl rfl ?_
        refine aw_getf rfl mg_121 rfl ?_
        refine aw_eq rfl (fun c => absurd c (by decide)) (fun _ => ?_)
        refine aw rfl rfl ?_
        refine aw_cs (d1 := 0) (L1 := 0) rfl rfl (by decide) (by decide) (Nat.le_of_ble_eq_true rfl) (c_X11_losing (by omega) (by omega) ?_)
        refine aw rfl rfl ?_
        exact aw_iret rfl rfl (q1 (n_land_gut hw24 hA hC (by omega) (by omega) c272) _ _ _)
      · refine aw rfl rfl ?_
        refine aw_c (v := nI 6) rfl (by decide) ?_
        refine aw_ieq rfl (fun c279 => ?_) (fun c279 => ?_)
        · refine aw_c (v := nI 0) rfl (by decide) ?_
          refine aw_putfU rfl mg_121 rfl rfl (by decide) mp_55 ?_
          refine aw rfl rfl ?_
          refine aw_getf rfl mg_121 rfl ?_
          refine aw_eq rfl (fun _ => ?_) (fun c => absurd (by decide) c)
          refine aw rfl rfl ?_
          refine aw rfl rfl ?_
          refine aw rfl rfl ?_
          refine aw rfl rfl ?_
          refine aw_c (v := nI 4) rfl (by decide) ?_
          refine aw_remn rfl (by omega) (by omega) (by omega) ?_
          refine aw_cs (d1 := 0) (L1 := 0) rfl rfl (by decide) (by decide) (Nat.le_of_ble_eq_true rfl) (c_X11_numberOf ?_)
          exact aw_iret rfl rfl (by rw [ew, show ((8 * e + a) * 3 + n_tn T l (6 * j + o)) * 4 + w = 4 * ((e * 8 + a) * 3 + n_tn T l (6 * j + o)) + w by omega]; exact q0 _ (n_land_on hw24 hA hC (by omega) (by omega) (by obtain ⟨z, hz, ez⟩ := (gsq (e * 8 + a) (by omega)).1 (by omega); rw [ez]; exact n_m1 (by omega)) c272 c252 (Or.inl c279)) (lie_on ha he htn g0x g1x g2x c272 c252) _ _ _)
        · refine aw rfl rfl ?_
          refine aw rfl rfl ?_
          refine aw rfl rfl ?_
          refine aw rfl rfl ?_
          refine aw rfl rfl ?_
          refine aw_getf rfl mg_121 rfl ?_
          refine aw rfl rfl ?_
          refine aw_getfE rfl mg_121 rfl (congrArg Value.int m1) ?_
          refine aw_ialdE rfl mg_143 rfl (by omega) (by decide) mt ?_
          refine aw rfl rfl ?_
          refine aw_cv (d1 := 2) (L1 := 52) rfl rfl mg_121 rfl rfl (by decide) (by decide) (Nat.le_of_ble_eq_true rfl) (c_X11_isBarred hM0 hG0 ha he (fun z v pl br => ?_) (fun z v pl br => ?_))
          · refine aw_eq rfl (fun c => absurd c (by decide)) (fun _ => ?_)
            refine aw_c (v := nI 1) rfl (by decide) ?_
            refine aw rfl rfl ?_
            refine aw_putfU rfl mg_121 rfl rfl (by decide) mp_55 ?_
            refine aw rfl rfl ?_
            refine aw_getf rfl mg_121 rfl ?_
            refine aw_eq rfl (fun c => absurd c (by decide)) (fun _ => ?_)
            refine aw rfl rfl ?_
            refine aw_cs (d1 := 0) (L1 := 0) rfl rfl (by decide) (by decide) (Nat.le_of_ble_eq_true rfl) (c_X11_losing (by omega) (by omega) ?_)
            refine aw rfl rfl ?_
            exact aw_iret rfl rfl (q1 (n_land_car hw24 hA hC (by omega) (by omega) c252 c279 z) _ _ _)
          · refine aw_eq rfl (fun _ => ?_) (fun c => absurd (by decide) c)
            refine aw_c (v := nI 0) rfl (by decide) ?_
            refine aw_putfU rfl mg_121 rfl rfl (by decide) mp_55 ?_
            refine aw rfl rfl ?_
            refine aw_getf rfl mg_121 rfl ?_
            refine aw_eq rfl (fun _ => ?_) (fun c => absurd (by decide) c)
            refine aw rfl rfl ?_
            refine aw rfl rfl ?_
            refine aw rfl rfl ?_
            refine aw rfl rfl ?_
            refine aw_c (v := nI 4) rfl (by decide) ?_
            refine aw_remn rfl (by omega) (by omega) (by omega) ?_
            refine aw_cs (d1 := 0) (L1 := 0) rfl rfl (by decide) (by decide) (Nat.le_of_ble_eq_true rfl) (c_X11_numberOf ?_)
            exact aw_iret rfl rfl (by rw [ew, show ((8 * e + a) * 3 + n_tn T l (6 * j + o)) * 4 + w = 4 * ((e * 8 + a) * 3 + n_tn T l (6 * j + o)) + w by omega]; exact q0 _ (n_land_on hw24 hA hC (by omega) (by omega) (by obtain ⟨z, hz, ez⟩ := (gsq (e * 8 + a) (by omega)).1 (by omega); rw [ez]; exact n_m1 (by omega)) c272 c252 (Or.inr z)) (lie_on ha he htn g0x g1x g2x c272 c252) _ _ _)
    · refine aw rfl rfl ?_
      refine aw rfl rfl ?_
      refine aw rfl rfl ?_
      refine aw rfl rfl ?_
      refine aw_c (v := nI 4) rfl (by decide) ?_
      refine aw_remn rfl (by omega) (by omega) (by omega) ?_
      refine aw_cs (d1 := 0) (L1 := 0) rfl rfl (by decide) (by decide) (Nat.le_of_ble_eq_true rfl) (c_num ?_)
      exact aw_iret rfl rfl (by rw [ew]; exact q0 _ (n_land_wall hw24 hA hC (by omega) (by omega) c252) (lie_wall hl htn g2x) _ _ _)
  · try (obtain ⟨e, he0, rfl⟩ := nI_of (Int32.not_lt.mpr p1); have he : e < T.1 1 := (by have := (nI_leI (by omega) (by omega)).mp p2; omega))
    refine aw_ne rfl (fun c => absurd (by decide) c) (fun _ => ?_)
    refine aw_c (v := nI 1) rfl (by decide) ?_
    refine aw rfl rfl ?_
    refine aw_putfU rfl mg_121 rfl rfl (by decide) mp_55 ?_
    refine aw rfl rfl ?_
    refine aw_getf rfl mg_121 rfl ?_
    refine aw_eq rfl (fun c => absurd c (by decide)) (fun _ => ?_)
    refine aw rfl rfl ?_
    refine aw_cs (d1 := 0) (L1 := 0) rfl rfl (by decide) (by decide) (Nat.le_of_ble_eq_true rfl) (c_X11_losing (by omega) (by omega) ?_)
    exact aw_iret rfl rfl (q1 (n_land_out hG0 hw24 hA ha (by rw [hC]; exact n_out (by omega) (by omega) p)) _ _ _)
theorem n_ab {T : Sd} {LW : LWt} {l j o : Nat} {x : Int32} (ho : o < 6) : n_a1 T LW l (6 * j + o) x = nI (l / 3 % 8) + T.2 3 (6 * j + o) + n_held (LW 1 (nI (l / 3 % 8)) (nI (l / 3 / 8)) (nI (l % 3)) (T.2 0 (l / 3)) (nI j) (T.2 3 (6 * j + o)) x) (nI 4) := by
  unfold n_a1 n_lw
  rw [show (6 * j + o) / 6 = j by omega]
theorem n_cb {T : Sd} {LW : LWt} {l j o : Nat} {x : Int32} (ho : o < 6) : n_c1 T LW l (6 * j + o) x = nI (l / 3 / 8) + T.2 4 (6 * j + o) + n_held (LW 0 (nI (l / 3 % 8)) (nI (l / 3 / 8)) (nI (l % 3)) (T.2 0 (l / 3)) (nI j) (T.2 3 (6 * j + o)) x) (nI 2) := by
  unfold n_c1 n_lw
  rw [show (6 * j + o) / 6 = j by omega]
set_option maxRecDepth 4000 in
theorem c_X11_brought {Q : Option Value → am_H → Prop} (hM : MR k lv T W) (hG : GS T) {l w j o : Nat} {x : Int32} (hl : lieOK T l) (hw : w < 4) (hj : j < T.1 3) (ho : o < oc T j) (q1 : n_land T (lwf W) l (6 * j + o) x = -1 → ∀ v pl br, Q (some (.int (nI (lsg l w)))) (mh g k v pl br (nI 1) c ct pr pt cm bf bt)) (q0 : ∀ m, n_land T (lwf W) l (6 * j + o) x = nI m → lieOK T m → ∀ v pl br, Q (some (.int (nI (4 * m + w)))) (mh g k v pl br (nI 0) c ct pr pt cm bf bt)) : AC am_P 3 75 239 [.ref 121, .int (nI (4 * l + w)), .int (nI j), .int (nI o), .int x] (mh g k v pl br lo c ct pr pt cm bf bt) Q := by
  refine AC.of (ls := [_, _, _, _, _, _, _, _, _, _, _, _, _]) rfl ?_
  have hM0 := hM
  have hG0 := hG
  obtain ⟨m0, m1, mr, mw, mf, mk, mli, mt, ms, msq, moc, mwy, msp, mlw⟩ := hM
  obtain ⟨⟨g0, g0x⟩, ⟨g1, g1x⟩, ⟨g2, g2x⟩, ⟨g3, g3x⟩, g4, ⟨g5, g5x⟩, g6, gsq, goc, gwt, gsp, gfr⟩ := hG
  have hl96 := hl.1
  have hg := goc j hj
  have ho6 := hg.2.2.1
  have hgo := hg.2.2.2.2 o ho
  obtain ⟨t, ht, et⟩ := hgo.2.2.2
  have hwy := mwy j o hj ho
  have hw24 : ¬ 6 * j + o = 24 := by omega
  have etn : n_tn T l (6 * j + o) = (l % 3 + t) % T.1 2 := by unfold n_tn; rw [et, nI_clamp (by omega)]
  have htn : n_tn T l (6 * j + o) < T.1 2 := by rw [etn]; exact Nat.mod_lt _ (by omega)
  have ew : (4 * l + w) % 4 = w := by omega
  obtain ⟨a, ha, hA, hcs⟩ := n_a2_m (T := T) (LW := lwf W) (l := l) (way := 6 * j + o) (x := x) g0 g0x
  refine aw_c (v := nI 6) rfl (by decide) ?_
  refine aw_c (v := nI 4) rfl (by decide) ?_
  refine aw rfl rfl ?_
  refine aw_getfE rfl mg_121 rfl (congrArg Value.int m1) ?_
  refine aw_muln rfl ?_
  refine aw rfl rfl ?_
  refine aw_addn rfl ?_
  refine aw_muln rfl ?_
  refine aw rfl rfl ?_
  refine aw_addn rfl ?_
  refine aw_ist (ls' := [_, _, _, _, _, _, _, _, _, _, _, _, _]) rfl rfl ?_
  refine aw rfl rfl ?_
  refine aw_cs (d1 := 0) (L1 := 0) rfl rfl (by decide) (by decide) (Nat.le_of_ble_eq_true rfl) (c_al (by omega) (by omega) ?_)
  refine aw_ist (ls' := [_, _, _, _, _, _, _, _, _, _, _, _, _]) rfl rfl ?_
  refine aw rfl rfl ?_
  refine aw_cs (d1 := 0) (L1 := 0) rfl rfl (by decide) (by decide) (Nat.le_of_ble_eq_true rfl) (c_ac (by omega) (by omega) ?_)
  refine aw_ist (ls' := [_, _, _, _, _, _, _, _, _, _, _, _, _]) rfl rfl ?_
  refine aw rfl rfl ?_
  refine aw_cs (d1 := 0) (L1 := 0) rfl rfl (by decide) (by decide) (Nat.le_of_ble_eq_true rfl) (c_fc (by omega) (by omega) ?_)
  refine aw_ist (ls' := [_, _, _, _, _, _, _, _, _, _, _, _, _]) rfl rfl ?_
  refine aw rfl rfl ?_
  refine aw_getf rfl mg_121 rfl ?_
  refine aw_c (v := nI 0) rfl (by decide) ?_
  refine aw rfl rfl ?_
  refine aw_iastU rfl mg_155 rfl (by omega) (by decide) (by decide) mu_155 ?_
  refine aw rfl rfl ?_
  refine aw_getf rfl mg_121 rfl ?_
  refine aw_c (v := nI 1) rfl (by decide) ?_
  refine aw rfl rfl ?_
  refine aw_iastU rfl mg_155 rfl (by omega) (by decide) (by decide) mu_155 ?_
  refine aw rfl rfl ?_
  refine aw_getf rfl mg_121 rfl ?_
  refine aw_c (v := nI 2) rfl (by decide) ?_
  refine aw rfl rfl ?_
  refine aw_iastU rfl mg_155 rfl (by omega) (by decide) (by decide) mu_155 ?_
  refine aw rfl rfl ?_
  refine aw_getf rfl mg_121 rfl ?_
  refine aw_c (v := nI 3) rfl (by decide) ?_
  refine aw rfl rfl ?_
  refine aw rfl rfl ?_
  refine aw_cv (d1 := 1) (L1 := 22) rfl rfl mg_121 rfl rfl (by decide) (by decide) (Nat.le_of_ble_eq_true rfl) (c_so hM0 hG0 (by omega) hw hl.2.1 hl.2.2.1 ?_)
  refine aw_iastU rfl mg_155 rfl (by omega) (by decide) (by decide) mu_155 ?_
  refine aw rfl rfl ?_
  refine aw_getf rfl mg_121 rfl ?_
  refine aw_c (v := nI 4) rfl (by decide) ?_
  refine aw rfl rfl ?_
  refine aw_iastU rfl mg_155 rfl (by omega) (by decide) (by decide) mu_155 ?_
  refine aw rfl rfl ?_
  refine aw_getf rfl mg_121 rfl ?_
  refine aw_c (v := nI 5) rfl (by decide) ?_
  refine aw rfl rfl ?_
  refine aw_getf rfl mg_121 rfl ?_
  refine aw rfl rfl ?_
  refine aw_ialdE rfl mg_137 rfl (by omega) (by decide) hwy.2.1 ?_
  refine aw_iastU rfl mg_155 rfl (by omega) (by decide) (by decide) mu_155 ?_
  refine aw rfl rfl ?_
  refine aw_getf rfl mg_121 rfl ?_
  refine aw_c (v := nI 6) rfl (by decide) ?_
  refine aw rfl rfl ?_
  refine aw_iastU rfl mg_155 rfl (by omega) (by decide) (by decide) mu_155 ?_
  refine aw rfl rfl ?_
  refine aw rfl rfl ?_
  refine aw_getf rfl mg_121 rfl ?_
  refine aw rfl rfl ?_
  refine aw_ialdE rfl mg_137 rfl (by omega) (by decide) hwy.2.1 ?_
  refine aw rfl rfl ?_
  refine aw rfl rfl ?_
  refine aw_c (v := nI 1) rfl (by decide) ?_
  refine aw_cv (d1 := 1) (L1 := 27) rfl rfl mg_121 rfl rfl (by decide) (by decide) (Nat.le_of_ble_eq_true rfl) (c_asks hM0 hG0 (by decide) (fun pl br => ?_))
  refine aw_c (v := nI 4) rfl (by decide) ?_
  refine aw_cs (d1 := 0) (L1 := 0) rfl rfl (by decide) (by decide) (Nat.le_of_ble_eq_true rfl) (c_X11_held (by decide) ?_)
  refine aw rfl rfl ?_
  refine aw_ist (ls' := [_, _, _, _, _, _, _, _, _, _, _, _, _]) rfl rfl ?_
  show AW am_P 3 75 239 119 [_, _, _, _, _, _, _, _, _, some (.int (nI (l / 3 % 8) + T.2 3 (6 * j + o) + n_held (lwf W 1 (nI (l / 3 % 8)) (nI (l / 3 / 8)) (nI (l % 3)) (T.2 0 (l / 3)) (nI j) (T.2 3 (6 * j + o)) x) (nI 4))), _, _, _] [] _ Q
  rw [← n_ab (by omega)]
  refine aw rfl rfl ?_
  refine aw rfl rfl ?_
  refine aw_getf rfl mg_121 rfl ?_
  refine aw rfl rfl ?_
  refine aw_ialdE rfl mg_138 rfl (by omega) (by decide) hwy.2.2.1 ?_
  refine aw rfl rfl ?_
  refine aw rfl rfl ?_
  refine aw_c (v := nI 0) rfl (by decide) ?_
  refine aw_cv (d1 := 1) (L1 := 27) rfl rfl mg_121 rfl rfl (by decide) (by decide) (Nat.le_of_ble_eq_true rfl) (c_asks hM0 hG0 (by decide) (fun pl br => ?_))
  refine aw_c (v := nI 2) rfl (by decide) ?_
  refine aw_cs (d1 := 0) (L1 := 0) rfl rfl (by decide) (by decide) (Nat.le_of_ble_eq_true rfl) (c_X11_held (by decide) ?_)
  refine aw rfl rfl ?_
  refine aw_ist (ls' := [_, _, _, _, _, _, _, _, _, _, _, _, _]) rfl rfl ?_
  show AW am_P 3 75 239 141 [_, _, _, _, _, _, _, _, _, _, some (.int (nI (l / 3 / 8) + T.2 4 (6 * j + o) + n_held (lwf W 0 (nI (l / 3 % 8)) (nI (l / 3 / 8)) (nI (l % 3)) (T.2 0 (l / 3)) (nI j) (T.2 3 (6 * j + o)) x) (nI 2))), _, _] [] _ Q
  rw [← n_cb (by omega)]
  refine aw rfl rfl ?_
  refine aw rfl rfl ?_
  refine aw_getf rfl mg_121 rfl ?_
  refine aw rfl rfl ?_
  refine aw_ialdE rfl mg_139 rfl (by omega) (by decide) (hwy.2.2.2.trans et) ?_
  refine aw_addn rfl ?_
  refine aw rfl rfl ?_
  refine aw_getf rfl mg_121 rfl ?_
  refine aw rfl rfl ?_
  refine aw_getfE rfl mg_121 rfl (congrArg Value.int m1) ?_
  refine aw_ialdE rfl mg_133 rfl (by omega) (by decide) mf ?_
  refine aw_remn rfl (by omega) (by omega) (by omega) ?_
  refine aw_ist (ls' := [_, _, _, _, _, _, _, _, _, _, _, _, _]) rfl rfl ?_
  rw [← etn]
  rcases hcs with ⟨b1, b2⟩ | ⟨b1, b2⟩ | ⟨b1, b2⟩
  · subst b2
    refine aw rfl rfl ?_
    refine aw_ge rfl (fun c165 => absurd c165 (Int32.not_le.mpr b1)) (fun c165 => ?_)
    refine aw_c (v := nI 0) rfl (by decide) ?_
    refine aw_ist (ls' := [_, _, _, _, _, _, _, _, _, _, _, _, _]) rfl rfl ?_
    refine aw rfl rfl ?_
    refine aw rfl rfl ?_
    refine aw_getf rfl mg_121 rfl ?_
    refine aw rfl rfl ?_
    refine aw_getfE rfl mg_121 rfl (congrArg Value.int m1) ?_
    refine aw_ialdE rfl mg_131 rfl (by omega) (by decide) mw ?_
    refine aw_iltn rfl (fun c182 => ?_) (fun c182 => by omega)
    exact l_brought hM0 hG0 hl hw hj ho q1 q0 ha hA
  · subst b2
    refine aw rfl rfl ?_
    refine aw_ge rfl (fun c165 => ?_) (fun c165 => absurd (Int32.le_trans (nI_le (a := 0) (Nat.zero_le _) (by omega)) b1) c165)
    refine aw rfl rfl ?_
    refine aw rfl rfl ?_
    refine aw_getf rfl mg_121 rfl ?_
    refine aw rfl rfl ?_
    refine aw_getfE rfl mg_121 rfl (congrArg Value.int m1) ?_
    refine aw_ialdE rfl mg_131 rfl (by omega) (by decide) mw ?_
    refine aw_ilt rfl (fun c182 => absurd c182 (Int32.not_lt.mpr b1)) (fun c182 => ?_)
    refine aw rfl rfl ?_
    refine aw_getf rfl mg_121 rfl ?_
    refine aw rfl rfl ?_
    refine aw_getfE rfl mg_121 rfl (congrArg Value.int m1) ?_
    refine aw_ialdE rfl mg_131 rfl (by omega) (by decide) mw ?_
    refine aw_c (v := nI 1) rfl (by decide) ?_
    refine aw_subn rfl (by omega) ?_
    refine aw_ist (ls' := [_, _, _, _, _, _, _, _, _, _, _, _, _]) rfl rfl ?_
    exact l_brought hM0 hG0 hl hw hj ho q1 q0 ha hA
  · rw [b2]
    refine aw rfl rfl ?_
    refine aw_gen rfl ?_
    refine aw rfl rfl ?_
    refine aw rfl rfl ?_
    refine aw_getf rfl mg_121 rfl ?_
    refine aw rfl rfl ?_
    refine aw_getfE rfl mg_121 rfl (congrArg Value.int m1) ?_
    refine aw_ialdE rfl mg_131 rfl (by omega) (by decide) mw ?_
    refine aw_iltn rfl (fun c182 => ?_) (fun c182 => by omega)
    exact l_brought hM0 hG0 hl hw hj ho q1 q0 ha hA
end M1
end
section
/-! ===== how likely: what both sides fill ===== -/
def hm (T : Sd) (l : Nat) : Bool := decide (T.2 0 (l / 3) = nI 6)
def mck (T : Sd) (l j : Nat) : Bool := !(decide (T.2 0 (l / 3) = nI 3)) || decide (oc T j = 1)
theorem mck_iff {T : Sd} {l j : Nat} : mck T l j = true ↔ m_ck T l j := by
  unfold mck m_ck
  by_cases h1 : T.2 0 (l / 3) = nI 3 <;> by_cases h2 : oc T j = 1 <;> simp [h1, h2]
/-- the chance behind one way: F is what the lies are worth a step later -/
def ld (T : Sd) (LW : LWt) (F : Nat → Nat → Nat) (l w way : Nat) (x : Int32) : Nat := if n_land T LW l way x = -1 then (if w = 0 then 0 else F l (w - 1)) else F (n_land T LW l way x).toNatClampNeg w
def va (T : Sd) (LW : LWt) (F : Nat → Nat → Nat) (l w a : Nat) (x : Int32) : Nat := if a = T.1 3 then 6 * ld T LW F l w 24 x else sm (fun o => sx T (6 * a + o) * ld T LW F l w (6 * a + o) x) (oc T a)
/-- the first of the likeliest -/
def bs (f : Nat → Nat) (cn : Nat → Bool) : Nat → Option (Nat × Nat)
  | 0 => none
  | n + 1 => match bs f cn n with
    | none => bif cn n then some (n, f n) else none
    | some p => bif cn n && decide (p.2 < f n) then some (n, f n) else some p
def bs1 : Option (Nat × Nat) → Int32
  | none => -1
  | some p => nI p.1
def bs2 : Option (Nat × Nat) → Int32
  | none => -1
  | some p => nI p.2
def bsA : Option (Nat × Nat) → Nat
  | none => 0
  | some p => p.1
def cnB (T : Sd) (l : Nat) : Nat → Bool := fun a => decide (a = T.1 3) || mck T l a
def act (T : Sd) (LW : LWt) (F : Nat → Nat → Nat) (r : Option Nat) (l w : Nat) (x : Int32) : Nat := match r with
  | some j => if mck T l j = true then j else T.1 3
  | none => bsA (bs (fun a => va T LW F l w a x) (cnB T l) (T.1 3 + 1))
def lay (T : Sd) (LW : LWt) (F : Nat → Nat → Nat) (r : Option Nat) (hv : Nat → Nat) (l w : Nat) (x : Int32) : Nat := if hm T l = true then hv l else va T LW F l w (act T LW F r l w x) x
/-- with n steps left, from the second t on: gl says where it should come, r the kick that is always done -/
def Fc (T : Sd) (LW : LWt) (r : Option Nat) (gl : Nat → Bool) : Nat → Nat → Nat → Nat → Nat
  | 0, _, l, _ => bif gl l then 1 else 0
  | n + 1, t, l, w => lay T LW (Fc T LW r gl n (t + T.1 5)) r (fun l => bif gl l then 6 ^ (n + 1) else 0) l w (nI t)
theorem ld_lost {T : Sd} {LW : LWt} {F : Nat → Nat → Nat} {l w way : Nat} {x : Int32} (h : n_land T LW l way x = -1) : ld T LW F l w way x = if w = 0 then 0 else F l (w - 1) := by
  unfold ld
  rw [if_pos h]
theorem ld_on {T : Sd} {LW : LWt} {F : Nat → Nat → Nat} {l w way m : Nat} {x : Int32} (h : n_land T LW l way x = nI m) (hm : m < 2147483648) : ld T LW F l w way x = F m w := by
  unfold ld
  rw [h, if_neg (n_m1 hm), nI_clamp hm]
theorem ld_le {T : Sd} {LW : LWt} {F : Nat → Nat → Nat} {l w way : Nat} {x : Int32} {N : Nat} (h : ∀ l w, F l w ≤ N) : ld T LW F l w way x ≤ N := by
  unfold ld
  by_cases h1 : n_land T LW l way x = -1
  · rw [if_pos h1]
    by_cases h2 : w = 0
    · rw [if_pos h2]; exact Nat.zero_le _
    · rw [if_neg h2]; exact h _ _
  · rw [if_neg h1]; exact h _ _
theorem sm_le {f g : Nat → Nat} {N : Nat} : ∀ n, (∀ i, i < n → f i ≤ g i * N) → sm f n ≤ sm g n * N := by
  intro n
  induction n with
  | zero => intro _; exact Nat.zero_le _
  | succ n ih =>
    intro h
    show sm f n + f n ≤ (sm g n + g n) * N
    rw [Nat.add_mul]
    exact Nat.add_le_add (ih (fun i hi => h i (by omega))) (h n (by omega))
theorem va_le {T : Sd} {LW : LWt} {F : Nat → Nat → Nat} {l w a : Nat} {x : Int32} {N : Nat} (hG : GS T) (h : ∀ l w, F l w ≤ N) (ha : a ≤ T.1 3) : va T LW F l w a x ≤ 6 * N := by
  unfold va
  by_cases h1 : a = T.1 3
  · rw [if_pos h1]
    exact Nat.mul_le_mul_left _ (ld_le h)
  · rw [if_neg h1]
    obtain ⟨⟨g0, g0x⟩, ⟨g1, g1x⟩, ⟨g2, g2x⟩, ⟨g3, g3x⟩, g4, ⟨g5, g5x⟩, g6, gsq, goc, gwt, gsp, gfr⟩ := hG
    have h2 := sm_le (f := fun o => sx T (6 * a + o) * ld T LW F l w (6 * a + o) x) (g := fun o => sx T (6 * a + o)) (N := N) (oc T a) (fun i _ => Nat.mul_le_mul_left _ (ld_le h))
    rw [(goc a (by omega)).2.2.2.1] at h2
    exact h2
theorem bs_lt (f : Nat → Nat) (cn : Nat → Bool) : ∀ n p, bs f cn n = some p → p.1 < n ∧ p.2 = f p.1 ∧ cn p.1 = true := by
  intro n
  induction n with
  | zero => intro p h; cases h
  | succ n ih =>
    intro p h
    rw [bs] at h
    cases e : bs f cn n with
    | none =>
      rw [e] at h
      cases e2 : cn n with
      | false => rw [e2] at h; cases h
      | true => rw [e2] at h; cases h; exact ⟨by omega, rfl, e2⟩
    | some q =>
      rw [e] at h
      have h3 := ih q e
      cases e2 : (cn n && decide (q.2 < f n)) with
      | false => simp only [e2, cond_false, Option.some.injEq] at h; subst h; exact ⟨by omega, h3.2.1, h3.2.2⟩
      | true =>
        simp only [e2, cond_true, Option.some.injEq] at h
        subst h
        have h4 : cn n = true := by
          cases e5 : cn n
          · rw [e5] at e2; cases e2
          · rfl
        exact ⟨by omega, rfl, h4⟩
theorem bs_some {T : Sd} {l : Nat} {f : Nat → Nat} : ∃ p, bs f (cnB T l) (T.1 3 + 1) = some p := by
  rw [bs]
  have h : cnB T l (T.1 3) = true := by unfold cnB; simp
  cases e : bs f (cnB T l) (T.1 3) with
  | none => exact ⟨_, by rw [h]; rfl⟩
  | some q =>
    cases e2 : (cnB T l (T.1 3) && decide (q.2 < f (T.1 3))) with
    | false => exact ⟨q, by simp only [e2, cond_false]⟩
    | true => exact ⟨_, by simp only [e2, cond_true]; rfl⟩
theorem act_le {T : Sd} {LW : LWt} {F : Nat → Nat → Nat} {r : Option Nat} {l w : Nat} {x : Int32} (hr : ∀ j, r = some j → j < T.1 3) : act T LW F r l w x ≤ T.1 3 ∧ (act T LW F r l w x < T.1 3 → mck T l (act T LW F r l w x) = true) := by
  cases r with
  | some j =>
    show (if mck T l j = true then j else T.1 3) ≤ _ ∧ ((if mck T l j = true then j else T.1 3) < _ → mck T l (if mck T l j = true then j else T.1 3) = true)
    by_cases h : mck T l j = true
    · rw [if_pos h]; exact ⟨Nat.le_of_lt (hr j rfl), fun _ => h⟩
    · rw [if_neg h]; exact ⟨Nat.le_refl _, fun z => absurd z (Nat.lt_irrefl _)⟩
  | none =>
    obtain ⟨p, hp⟩ := bs_some (T := T) (l := l) (f := fun a => va T LW F l w a x)
    have h1 := bs_lt _ _ _ _ hp
    have e : act T LW F none l w x = p.1 := by show bsA (bs _ _ _) = _; rw [hp]; rfl
    rw [e]
    refine ⟨by omega, fun z => ?_⟩
    have h2 := h1.2.2
    unfold cnB at h2
    rw [show decide (p.1 = T.1 3) = false from decide_eq_false (by omega)] at h2
    exact h2
theorem Fc_le {T : Sd} {LW : LWt} {r : Option Nat} {gl : Nat → Bool} (hG : GS T) (hr : ∀ j, r = some j → j < T.1 3) : ∀ n t l w, Fc T LW r gl n t l w ≤ 6 ^ n := by
  intro n
  induction n with
  | zero => intro t l w; show (bif gl l then 1 else 0) ≤ 1; cases gl l <;> decide
  | succ n ih =>
    intro t l w
    show lay T LW _ r _ l w (nI t) ≤ _
    unfold lay
    by_cases h : hm T l = true
    · rw [if_pos h]; show (bif gl l then 6 ^ (n + 1) else 0) ≤ _; cases gl l
      · exact Nat.zero_le _
      · exact Nat.le_refl _
    · rw [if_neg h, Nat.pow_succ, Nat.mul_comm]; exact va_le hG (fun l w => ih _ l w) (act_le hr).1
/-- the reference's row of chances -/
def CT (T : Sd) (c : Nat → Int32) (F : Nat → Nat → Nat) : Prop := (∀ l w, lieOK T l → w < 4 → c (4 * l + w) = nI (F l w)) ∧ c 384 = nI 0
theorem ct_lsg {T : Sd} {c : Nat → Int32} {F : Nat → Nat → Nat} {l w : Nat} (h : CT T c F) (hl : lieOK T l) (hw : w < 4) : c (lsg l w) = nI (if w = 0 then 0 else F l (w - 1)) := by
  unfold lsg
  by_cases h1 : w = 0
  · rw [if_pos h1, if_pos h1]; exact h.2
  · rw [if_neg h1, if_neg h1]; exact h.1 l (w - 1) hl (by omega)
theorem lsg_lt {l w : Nat} (hl : l < 96) (hw : w < 4) : lsg l w < 385 := by
  unfold lsg
  by_cases h1 : w = 0
  · rw [if_pos h1]; omega
  · rw [if_neg h1]; omega
section M1
variable {g : am_H} {k : Mk} {v pl : Nat → Int32} {br lo : Int32} {c ct pr pt cm bf bt : Nat → Int32}
variable {lv : Nat} {T : Sd} {W : Nat → Lw}
theorem c_X11_isHome {Q : Option Value → am_H → Prop} {l w : Nat} (hl0 : k.1 18 = nI lv) (hlv : lv < 2) (hl : l ≤ 96) (hw : w < 4) (q1 : l < 96 → k.2.1 24 (32 * lv + 8 * (l / 3 / 8) + l / 3 % 8) = nI 6 → Q (some (.int (nI 1))) (mh g k v pl br lo c ct pr pt cm bf bt)) (q0 : (l < 96 → ¬ k.2.1 24 (32 * lv + 8 * (l / 3 / 8) + l / 3 % 8) = nI 6) → Q (some (.int (nI 0))) (mh g k v pl br lo c ct pr pt cm bf bt)) (h96 : l = 96 → w = 0) : AC am_P 2 43 223 [.ref 121, .int (nI (4 * l + w))] (mh g k v pl br lo c ct pr pt cm bf bt) Q := by
  refine AC.of (ls := [_, _]) rfl ?_
  refine aw rfl rfl ?_
  refine aw_c (v := nI 384) rfl (by decide) ?_
  refine aw_ieqn rfl (fun c4 => ?_) (fun c4 => ?_)
  · refine aw_c (v := nI 0) rfl (by decide) ?_
    exact aw_iret rfl rfl (q0 (fun _ => by omega))
  · refine aw rfl rfl ?_
    refine aw rfl rfl ?_
    refine aw_cv (d1 := 1) (L1 := 22) rfl rfl mg_121 rfl rfl (by decide) (by decide) (Nat.le_of_ble_eq_true rfl) (c_X11_sortOf hl0 hlv (by omega) hw ?_)
    refine aw_c (v := nI 6) rfl (by decide) ?_
    refine aw_ine rfl (fun c14 => ?_) (fun c14 => ?_)
    · refine aw_c (v := nI 0) rfl (by decide) ?_
      exact aw_iret rfl rfl (q0 (fun _ => c14))
    · refine aw_c (v := nI 1) rfl (by decide) ?_
      refine aw rfl rfl ?_
      exact aw_iret rfl rfl (q1 (by omega) c14)
theorem c_sixes {Q : Option Value → am_H → Prop} {n : Nat} (hn : n < 2147483648) (q : Q (some (.int (nI (6 ^ n)))) (mh g k v pl br lo c ct pr pt cm bf bt)) : AC am_P 0 0 258 [.int (nI n)] (mh g k v pl br lo c ct pr pt cm bf bt) Q := by
  refine AC.of (ls := [_, _, _]) rfl ?_
  refine aw_c (v := nI 1) rfl (by decide) ?_
  refine aw_ist (ls' := [_, _, _]) rfl rfl ?_
  refine aw_c (v := nI 0) rfl (by decide) ?_
  refine aw_ist (ls' := [_, _, _]) rfl rfl ?_
  refine aw_loop (α := Unit) (ll := fun i _ => [some (.int (nI n)), some (.int (nI (6 ^ i))), some (.int (nI i))]) (hh := fun _ _ => (mh g k v pl br lo c ct pr pt cm bf bt)) (I := fun _ _ => True) (N := n) (fun i y hi _ ih => ?_) (fun y _ => ?_) 0 () (Nat.zero_le _) trivial
  · skip
    refine aw rfl rfl ?_
    refine aw rfl rfl ?_
    refine aw_igen rfl (fun c6 => by omega) (fun c6 => ?_)
    refine aw rfl rfl ?_
    refine aw_c (v := nI 6) rfl (by decide) ?_
    refine aw_muln rfl ?_
    refine aw_ist (ls' := [_, _, _]) rfl rfl ?_
    refine aw_incn (c := 1) (ls' := [_, _, _]) rfl rfl (by decide) rfl ?_
    refine aw rfl rfl ?_
    exact ih () trivial
  · skip
    refine aw rfl rfl ?_
    refine aw rfl rfl ?_
    refine aw_igen rfl (fun c6 => ?_) (fun c6 => by omega)
    refine aw rfl rfl ?_
    exact aw_iret rfl rfl q
theorem c_X11_valueOf {Q : Option Value → am_H → Prop} (hM : MR k lv T W) (hG : GS T) {F : Nat → Nat → Nat} {l w a : Nat} {x : Int32} (hc : CT T c F) (hl : lieOK T l) (hw : w < 4) (ha : a ≤ T.1 3) (q : ∀ v pl br lo, Q (some (.int (nI (va T (lwf W) F l w a x)))) (mh g k v pl br lo c ct pr pt cm bf bt)) : AC am_P 4 107 261 [.ref 121, .int (nI (4 * l + w)), .int (nI a), .int x] (mh g k v pl br lo c ct pr pt cm bf bt) Q := by
  refine AC.of (ls := [_, _, _, _, _, _]) rfl ?_
  have hM0 := hM
  have hG0 := hG
  obtain ⟨m0, m1, mr, mw, mf, mk, mli, mt, ms, msq, moc, mwy, msp, mlw⟩ := hM
  obtain ⟨⟨g0, g0x⟩, ⟨g1, g1x⟩, ⟨g2, g2x⟩, ⟨g3, g3x⟩, g4, ⟨g5, g5x⟩, g6, gsq, goc, gwt, gsp, gfr⟩ := hG
  have hl96 := hl.1
  have hls := lsg_lt hl96 hw
  have hcl := ct_lsg hc hl hw
  by_cases e3 : a = T.1 3
  · have qe : va T (lwf W) F l w a x = 6 * ld T (lwf W) F l w 24 x := by unfold va; rw [if_pos e3]
    rw [qe] at q
    refine aw rfl rfl ?_
    refine aw rfl rfl ?_
    refine aw_getf rfl mg_121 rfl ?_
    refine aw rfl rfl ?_
    refine aw_getfE rfl mg_121 rfl (congrArg Value.int m1) ?_
    refine aw_ialdE rfl mg_134 rfl (by omega) (by decide) mk ?_
    refine aw_inen rfl (fun c10 => by omega) (fun c10 => ?_)
    refine aw_c (v := nI 6) rfl (by decide) ?_
    refine aw rfl rfl ?_
    refine aw_getf rfl mg_121 rfl ?_
    refine aw rfl rfl ?_
    refine aw rfl rfl ?_
    refine aw rfl rfl ?_
    refine aw_cv (d1 := 3) (L1 := 75) rfl rfl mg_121 rfl rfl (by decide) (by decide) (Nat.le_of_ble_eq_true rfl) (c_X11_waited hM0 hG0 hl hw (fun z v pl br => ?_) (fun z v pl br => ?_))
    · refine aw_ialdE rfl mg_159 rfl (by omega) (by decide) hcl ?_
      refine aw_muln rfl ?_
      exact aw_iret rfl rfl (by rw [ld_lost z] at q; exact q _ _ _ _)
    · refine aw_ialdE rfl mg_159 rfl (by omega) (by decide) (hc.1 l w hl hw) ?_
      refine aw_muln rfl ?_
      exact aw_iret rfl rfl (by rw [ld_on z (by omega)] at q; exact q _ _ _ _)
  · have qe : va T (lwf W) F l w a x = sm (fun o => sx T (6 * a + o) * ld T (lwf W) F l w (6 * a + o) x) (oc T a) := by unfold va; rw [if_neg e3]
    rw [qe] at q
    have ha3 : a < T.1 3 := by omega
    have hg := goc a ha3
    have hoc : k.2.1 27 (4 * lv + a) = nI (oc T a) := (moc a ha3).trans hg.1
    have ho6 := hg.2.2.1
    refine aw rfl rfl ?_
    refine aw rfl rfl ?_
    refine aw_getf rfl mg_121 rfl ?_
    refine aw rfl rfl ?_
    refine aw_getfE rfl mg_121 rfl (congrArg Value.int m1) ?_
    refine aw_ialdE rfl mg_134 rfl (by omega) (by decide) mk ?_
    refine aw_inen rfl (fun c10 => ?_) (fun c10 => by omega)
    refine aw_c (v := nI 0) rfl (by decide) ?_
    refine aw_ist (ls' := [_, _, _, _, _, _]) rfl rfl ?_
    refine aw_c (v := nI 0) rfl (by decide) ?_
    refine aw_ist (ls' := [_, _, _, _, _, _]) rfl rfl ?_
    refine aw_loop (α := (Nat → Int32) × (Nat → Int32) × Int32 × Int32) (ll := fun i y => [some (.ref 121), some (.int (nI (4 * l + w))), some (.int (nI a)), some (.int x), some (.int (nI (sm (fun o => sx T (6 * a + o) * ld T (lwf W) F l w (6 * a + o) x) i))), some (.int (nI i))]) (hh := fun _ y => mh g k y.1 y.2.1 y.2.2.1 y.2.2.2 c ct pr pt cm bf bt) (I := fun _ _ => True) (N := oc T a) (fun i y hi _ ih => ?_) (fun y _ => ?_) 0 (v, pl, br, lo) (Nat.zero_le _) trivial
    · obtain ⟨v, pl, br, lo⟩ := y
      have hgo := hg.2.2.2.2 i hi
      have hsx : k.2.1 28 (6 * (4 * lv + a) + i) = nI (sx T (6 * a + i)) := (mwy a i ha3 hi).1.trans hgo.1
      dsimp only
      refine aw rfl rfl ?_
      refine aw rfl rfl ?_
      refine aw_getf rfl mg_121 rfl ?_
      refine aw_c (v := nI 4) rfl (by decide) ?_
      refine aw rfl rfl ?_
      refine aw_getfE rfl mg_121 rfl (congrArg Value.int m1) ?_
      refine aw_muln rfl ?_
      refine aw rfl rfl ?_
      refine aw_addn rfl ?_
      refine aw_ialdE rfl mg_135 rfl (by omega) (by decide) hoc ?_
      refine aw_igen rfl (fun c49 => by omega) (fun c49 => ?_)
      refine aw rfl rfl ?_
      refine aw rfl rfl ?_
      refine aw_getf rfl mg_121 rfl ?_
      refine aw_c (v := nI 6) rfl (by decide) ?_
      refine aw_c (v := nI 4) rfl (by decide) ?_
      refine aw rfl rfl ?_
      refine aw_getfE rfl mg_121 rfl (congrArg Value.int m1) ?_
      refine aw_muln rfl ?_
      refine aw rfl rfl ?_
      refine aw_addn rfl ?_
      refine aw_muln rfl ?_
      refine aw rfl rfl ?_
      refine aw_addn rfl ?_
      refine aw_ialdE rfl mg_136 rfl (by omega) (by decide) hsx ?_
      refine aw rfl rfl ?_
      refine aw_getf rfl mg_121 rfl ?_
      refine aw rfl rfl ?_
      refine aw rfl rfl ?_
      refine aw rfl rfl ?_
      refine aw rfl rfl ?_
      refine aw rfl rfl ?_
      refine aw_cv (d1 := 3) (L1 := 75) rfl rfl mg_121 rfl rfl (by decide) (by decide) (Nat.le_of_ble_eq_true rfl) (c_X11_brought hM0 hG0 hl hw ha3 hi (fun z v pl br => ?_) (fun m z z2 v pl br => ?_))
      · try have hm96 := z2.1
        refine aw_ialdE rfl mg_159 rfl (by omega) (by decide) hcl ?_
        refine aw_muln rfl ?_
        refine aw_addn rfl ?_
        refine aw_ist (ls' := [_, _, _, _, _, _]) rfl rfl ?_
        refine aw_incn (c := 1) (ls' := [_, _, _, _, _, _]) rfl rfl (by decide) rfl ?_
        refine aw rfl rfl ?_
        rw [← ld_lost (F := F) (w := w) z]
        exact ih (v, pl, br, _) trivial
      · try have hm96 := z2.1
        refine aw_ialdE rfl mg_159 rfl (by omega) (by decide) (hc.1 m w z2 hw) ?_
        refine aw_muln rfl ?_
        refine aw_addn rfl ?_
        refine aw_ist (ls' := [_, _, _, _, _, _]) rfl rfl ?_
        refine aw_incn (c := 1) (ls' := [_, _, _, _, _, _]) rfl rfl (by decide) rfl ?_
        refine aw rfl rfl ?_
        rw [← ld_on (F := F) (w := w) z (by omega)]
        exact ih (v, pl, br, _) trivial
    · obtain ⟨v, pl, br, lo⟩ := y
      dsimp only
      refine aw rfl rfl ?_
      refine aw rfl rfl ?_
      refine aw_getf rfl mg_121 rfl ?_
      refine aw_c (v := nI 4) rfl (by decide) ?_
      refine aw rfl rfl ?_
      refine aw_getfE rfl mg_121 rfl (congrArg Value.int m1) ?_
      refine aw_muln rfl ?_
      refine aw rfl rfl ?_
      refine aw_addn rfl ?_
      refine aw_ialdE rfl mg_135 rfl (by omega) (by decide) hoc ?_
      refine aw_igen rfl (fun c49 => ?_) (fun c49 => by omega)
      refine aw rfl rfl ?_
      exact aw_iret rfl rfl (q _ _ _ _)
end M1
end
section
theorem bs_none {f : Nat → Nat} {cn : Nat → Bool} {n : Nat} (h : bs f cn n = none) : bs f cn (n + 1) = bif cn n then some (n, f n) else none := by rw [bs, h]
theorem bs_more {f : Nat → Nat} {cn : Nat → Bool} {n : Nat} {p : Nat × Nat} (h : bs f cn n = some p) : bs f cn (n + 1) = bif cn n && decide (p.2 < f n) then some (n, f n) else some p := by rw [bs, h]
section M1
variable {g : am_H} {k : Mk} {v pl : Nat → Int32} {br lo : Int32} {c ct pr pt cm bf bt : Nat → Int32}
variable {lv : Nat} {T : Sd} {W : Nat → Lw}
theorem c_X11_bestOf {Q : Option Value → am_H → Prop} (hM : MR k lv T W) (hG : GS T) {F : Nat → Nat → Nat} {l w : Nat} {x : Int32} (hc : CT T c F) (hF : ∀ l w, F l w < 300000000) (hl : lieOK T l) (hw : w < 4) (q : ∀ v pl br lo, Q (some (.int (bs1 (bs (fun a => va T (lwf W) F l w a x) (cnB T l) (T.1 3 + 1))))) (mh g k v pl br lo c ct pr pt cm bf bt)) : AC am_P 5 132 260 [.ref 121, .int (nI (4 * l + w)), .int x] (mh g k v pl br lo c ct pr pt cm bf bt) Q := by
  refine AC.of (ls := [_, _, _, _, _, _, _]) rfl ?_
  have hM0 := hM
  have hG0 := hG
  obtain ⟨m0, m1, mr, mw, mf, mk, mli, mt, ms, msq, moc, mwy, msp, mlw⟩ := hM
  obtain ⟨⟨g0, g0x⟩, ⟨g1, g1x⟩, ⟨g2, g2x⟩, ⟨g3, g3x⟩, g4, ⟨g5, g5x⟩, g6, gsq, goc, gwt, gsp, gfr⟩ := hG
  have hl96 := hl.1
  have hva : ∀ a, a ≤ T.1 3 → va T (lwf W) F l w a x < 2147483648 := fun a ha => by have h1 := va_le (LW := lwf W) (l := l) (w := w) (x := x) hG0 (fun l w => Nat.le_of_lt (hF l w)) ha; omega
  refine aw_c (v := -1) rfl (by decide) ?_
  refine aw_ist (ls' := [_, _, _, _, _, _, _]) rfl rfl ?_
  refine aw_c (v := -1) rfl (by decide) ?_
  refine aw_ist (ls' := [_, _, _, _, _, _, _]) rfl rfl ?_
  refine aw_c (v := nI 0) rfl (by decide) ?_
  refine aw_ist (ls' := [_, _, _, _, _, _, _]) rfl rfl ?_
  refine aw_loop (α := Option Value × (Nat → Int32) × (Nat → Int32) × Int32 × Int32) (ll := fun i y => [some (.ref 121), some (.int (nI (4 * l + w))), some (.int x), some (.int (bs1 (bs (fun a => va T (lwf W) F l w a x) (cnB T l) i))), some (.int (bs2 (bs (fun a => va T (lwf W) F l w a x) (cnB T l) i))), some (.int (nI i)), y.1]) (hh := fun _ y => mh g k y.2.1 y.2.2.1 y.2.2.2.1 y.2.2.2.2 c ct pr pt cm bf bt) (I := fun _ _ => True) (N := T.1 3 + 1) (fun i y hi _ ih => ?_) (fun y _ => ?_) 0 (none, v, pl, br, lo) (Nat.zero_le _) trivial
  · obtain ⟨l6, v, pl, br, lo⟩ := y
    dsimp only
    have ih' : ∀ l6 v pl br lo p, bs (fun a => va T (lwf W) F l w a x) (cnB T l) (i + 1) = p → AW am_P 5 132 260 8 [some (.ref 121), some (.int (nI (4 * l + w))), some (.int x), some (.int (bs1 p)), some (.int (bs2 p)), some (.int (nI (i + 1))), l6] [] (mh g k v pl br lo c ct pr pt cm bf bt) Q := fun l6 v pl br lo p hp => by
      subst hp
      exact ih (l6, v, pl, br, lo) trivial
    have hvi := hva i (by omega)
    by_cases e3 : i = T.1 3
    · have hcn : cnB T l i = true := by unfold cnB; rw [decide_eq_true e3]; rfl
      cases eb : bs (fun a => va T (lwf W) F l w a x) (cnB T l) i with
      | none =>
        have eb2 := bs_none eb
        rw [hcn] at eb2
        refine aw rfl rfl ?_
        refine aw rfl rfl ?_
        refine aw_getf rfl mg_121 rfl ?_
        refine aw rfl rfl ?_
        refine aw_getfE rfl mg_121 rfl (congrArg Value.int m1) ?_
        refine aw_ialdE rfl mg_134 rfl (by omega) (by decide) mk ?_
        refine aw_igtn rfl (fun c19 => by omega) (fun c19 => ?_)
        refine aw rfl rfl ?_
        refine aw rfl rfl ?_
        refine aw_getf rfl mg_121 rfl ?_
        refine aw rfl rfl ?_
        refine aw_getfE rfl mg_121 rfl (congrArg Value.int m1) ?_
        refine aw_ialdE rfl mg_134 rfl (by omega) (by decide) mk ?_
        refine aw_igen rfl (fun c33 => ?_) (fun c33 => by omega)
        refine aw rfl rfl ?_
        refine aw rfl rfl ?_
        refine aw rfl rfl ?_
        refine aw rfl rfl ?_
        refine aw_cv (d1 := 4) (L1 := 107) rfl rfl mg_121 rfl rfl (by decide) (by decide) (Nat.le_of_ble_eq_true rfl) (c_X11_valueOf hM0 hG0 hc hl hw (by omega) (fun v pl br lo => ?_))
        refine aw_ist (ls' := [_, _, _, _, _, _, _]) rfl rfl ?_
        refine aw rfl rfl ?_
        refine aw rfl rfl ?_
        refine aw_igt rfl (fun c63 => ?_) (fun c63 => absurd (Int32.lt_of_lt_of_le (by decide : (-1 : Int32) < nI 0) (nI_le (Nat.zero_le _) hvi)) c63)
        refine aw rfl rfl ?_
        refine aw_ist (ls' := [_, _, _, _, _, _, _]) rfl rfl ?_
        refine aw rfl rfl ?_
        refine aw_ist (ls' := [_, _, _, _, _, _, _]) rfl rfl ?_
        refine aw_incn (c := 1) (ls' := [_, _, _, _, _, _, _]) rfl rfl (by decide) rfl ?_
        refine aw rfl rfl ?_
        exact ih' _ v pl br lo _ eb2
      | some p =>
        have eb2 := bs_more eb
        have hp := bs_lt _ _ _ _ eb
        have hp2 : p.2 < 2147483648 := by rw [hp.2.1]; exact hva _ (by omega)
        rw [hcn] at eb2
        show AW am_P 5 132 260 8 [_, _, _, some (.int (nI p.1)), some (.int (nI p.2)), _, _] [] _ Q
        refine aw rfl rfl ?_
        refine aw rfl rfl ?_
        refine aw_getf rfl mg_121 rfl ?_
        refine aw rfl rfl ?_
        refine aw_getfE rfl mg_121 rfl (congrArg Value.int m1) ?_
        refine aw_ialdE rfl mg_134 rfl (by omega) (by decide) mk ?_
        refine aw_igtn rfl (fun c19 => by omega) (fun c19 => ?_)
        refine aw rfl rfl ?_
        refine aw rfl rfl ?_
        refine aw_getf rfl mg_121 rfl ?_
        refine aw rfl rfl ?_
        refine aw_getfE rfl mg_121 rfl (congrArg Value.int m1) ?_
        refine aw_ialdE rfl mg_134 rfl (by omega) (by decide) mk ?_
        refine aw_igen rfl (fun c33 => ?_) (fun c33 => by omega)
        refine aw rfl rfl ?_
        refine aw rfl rfl ?_
        refine aw rfl rfl ?_
        refine aw rfl rfl ?_
        refine aw_cv (d1 := 4) (L1 := 107) rfl rfl mg_121 rfl rfl (by decide) (by decide) (Nat.le_of_ble_eq_true rfl) (c_X11_valueOf hM0 hG0 hc hl hw (by omega) (fun v pl br lo => ?_))
        refine aw_ist (ls' := [_, _, _, _, _, _, _]) rfl rfl ?_
        refine aw rfl rfl ?_
        refine aw rfl rfl ?_
        refine aw_igtn rfl (fun c63 => ?_) (fun c63 => ?_)
        · refine aw rfl rfl ?_
          refine aw_ist (ls' := [_, _, _, _, _, _, _]) rfl rfl ?_
          refine aw rfl rfl ?_
          refine aw_ist (ls' := [_, _, _, _, _, _, _]) rfl rfl ?_
          refine aw_incn (c := 1) (ls' := [_, _, _, _, _, _, _]) rfl rfl (by decide) rfl ?_
          refine aw rfl rfl ?_
          rw [decide_eq_true c63] at eb2
          exact ih' _ v pl br lo _ eb2
        · refine aw rfl rfl ?_
          refine aw_incn (c := 1) (ls' := [_, _, _, _, _, _, _]) rfl rfl (by decide) rfl ?_
          refine aw rfl rfl ?_
          rw [decide_eq_false c63] at eb2
          exact ih' _ v pl br lo _ eb2
    · cases eb : bs (fun a => va T (lwf W) F l w a x) (cnB T l) i with
      | none =>
        have eb2 := bs_none eb
        refine aw rfl rfl ?_
        refine aw rfl rfl ?_
        refine aw_getf rfl mg_121 rfl ?_
        refine aw rfl rfl ?_
        refine aw_getfE rfl mg_121 rfl (congrArg Value.int m1) ?_
        refine aw_ialdE rfl mg_134 rfl (by omega) (by decide) mk ?_
        refine aw_igtn rfl (fun c19 => by omega) (fun c19 => ?_)
        refine aw rfl rfl ?_
        refine aw rfl rfl ?_
        refine aw_getf rfl mg_121 rfl ?_
        refine aw rfl rfl ?_
        refine aw_getfE rfl mg_121 rfl (congrArg Value.int m1) ?_
        refine aw_ialdE rfl mg_134 rfl (by omega) (by decide) mk ?_
        refine aw_igen rfl (fun c33 => by omega) (fun c33 => ?_)
        refine aw rfl rfl ?_
        refine aw rfl rfl ?_
        refine aw rfl rfl ?_
        refine aw_cv (d1 := 2) (L1 := 43) rfl rfl mg_121 rfl rfl (by decide) (by decide) (Nat.le_of_ble_eq_true rfl) (c_X11_canKick hM0 hG0 hl hw (by omega) (fun z => ?_) (fun z => ?_))
        · refine aw_ne rfl (fun _ => ?_) (fun c => absurd c (by decide))
          refine aw rfl rfl ?_
          refine aw rfl rfl ?_
          refine aw rfl rfl ?_
          refine aw rfl rfl ?_
          refine aw_cv (d1 := 4) (L1 := 107) rfl rfl mg_121 rfl rfl (by decide) (by decide) (Nat.le_of_ble_eq_true rfl) (c_X11_valueOf hM0 hG0 hc hl hw (by omega) (fun v pl br lo => ?_))
          refine aw_ist (ls' := [_, _, _, _, _, _, _]) rfl rfl ?_
          refine aw rfl rfl ?_
          refine aw rfl rfl ?_
          refine aw_igt rfl (fun c63 => ?_) (fun c63 => absurd (Int32.lt_of_lt_of_le (by decide : (-1 : Int32) < nI 0) (nI_le (Nat.zero_le _) hvi)) c63)
          refine aw rfl rfl ?_
          refine aw_ist (ls' := [_, _, _, _, _, _, _]) rfl rfl ?_
          refine aw rfl rfl ?_
          refine aw_ist (ls' := [_, _, _, _, _, _, _]) rfl rfl ?_
          refine aw_incn (c := 1) (ls' := [_, _, _, _, _, _, _]) rfl rfl (by decide) rfl ?_
          refine aw rfl rfl ?_
          have hcn : cnB T l i = true := by unfold cnB; rw [mck_iff.mpr z]; exact Bool.or_true _
          rw [hcn] at eb2
          exact ih' _ v pl br lo _ eb2
        · refine aw_ne rfl (fun c => absurd (by decide) c) (fun _ => ?_)
          refine aw rfl rfl ?_
          refine aw_incn (c := 1) (ls' := [_, _, _, _, _, _, _]) rfl rfl (by decide) rfl ?_
          refine aw rfl rfl ?_
          have hcn : cnB T l i = false := by unfold cnB; rw [decide_eq_false e3]; exact Bool.eq_false_iff.mpr (fun y => z (mck_iff.mp y))
          rw [hcn] at eb2
          exact ih' _ v pl br lo _ eb2
      | some p =>
        have eb2 := bs_more eb
        have hp := bs_lt _ _ _ _ eb
        have hp2 : p.2 < 2147483648 := by rw [hp.2.1]; exact hva _ (by omega)
        show AW am_P 5 132 260 8 [_, _, _, some (.int (nI p.1)), some (.int (nI p.2)), _, _] [] _ Q
        refine aw rfl rfl ?_
        refine aw rfl rfl ?_
        refine aw_getf rfl mg_121 rfl ?_
        refine aw rfl rfl ?_
        refine aw_getfE rfl mg_121 rfl (congrArg Value.int m1) ?_
        refine aw_ialdE rfl mg_134 rfl (by omega) (by decide) mk ?_
        refine aw_igtn rfl (fun c19 => by omega) (fun c19 => ?_)
        refine aw rfl rfl ?_
        refine aw rfl rfl ?_
        refine aw_getf rfl mg_121 rfl ?_
        refine aw rfl rfl ?_
        refine aw_getfE rfl mg_121 rfl (congrArg Value.int m1) ?_
        refine aw_ialdE rfl mg_134 rfl (by omega) (by decide) mk ?_
        refine aw_igen rfl (fun c33 => by omega) (fun c33 => ?_)
        refine aw rfl rfl ?_
        refine aw rfl rfl ?_
        refine aw rfl rfl ?_
        refine aw_cv (d1 := 2) (L1 := 43) rfl rfl mg_121 rfl rfl (by decide) (by decide) (Nat.le_of_ble_eq_true rfl) (c_X11_canKick hM0 hG0 hl hw (by omega) (fun z => ?_) (fun z => ?_))
        · refine aw_ne rfl (fun _ => ?_) (fun c => absurd c (by decide))
          refine aw rfl rfl ?_
          refine aw rfl rfl ?_
          refine aw rfl rfl ?_
          refine aw rfl rfl ?_
          refine aw_cv (d1 := 4) (L1 := 107) rfl rfl mg_121 rfl rfl (by decide) (by decide) (Nat.le_of_ble_eq_true rfl) (c_X11_valueOf hM0 hG0 hc hl hw (by omega) (fun v pl br lo => ?_))
          refine aw_ist (ls' := [_, _, _, _, _, _, _]) rfl rfl ?_
          refine aw rfl rfl ?_
          refine aw rfl rfl ?_
          refine aw_igtn rfl (fun c63 => ?_) (fun c63 => ?_)
          · refine aw rfl rfl ?_
            refine aw_ist (ls' := [_, _, _, _, _, _, _]) rfl rfl ?_
            refine aw rfl rfl ?_
            refine aw_ist (ls' := [_, _, _, _, _, _, _]) rfl rfl ?_
            refine aw_incn (c := 1) (ls' := [_, _, _, _, _, _, _]) rfl rfl (by decide) rfl ?_
            refine aw rfl rfl ?_
            have hcn : cnB T l i = true := by unfold cnB; rw [mck_iff.mpr z]; exact Bool.or_true _
            rw [hcn] at eb2
            rw [decide_eq_true c63] at eb2
            exact ih' _ v pl br lo _ eb2
          · refine aw rfl rfl ?_
            refine aw_incn (c := 1) (ls' := [_, _, _, _, _, _, _]) rfl rfl (by decide) rfl ?_
            refine aw rfl rfl ?_
            have hcn : cnB T l i = true := by unfold cnB; rw [mck_iff.mpr z]; exact Bool.or_true _
            rw [hcn] at eb2
            rw [decide_eq_false c63] at eb2
            exact ih' _ v pl br lo _ eb2
        · refine aw_ne rfl (fun c => absurd (by decide) c) (fun _ => ?_)
          refine aw rfl rfl ?_
          refine aw_incn (c := 1) (ls' := [_, _, _, _, _, _, _]) rfl rfl (by decide) rfl ?_
          refine aw rfl rfl ?_
          have hcn : cnB T l i = false := by unfold cnB; rw [decide_eq_false e3]; exact Bool.eq_false_iff.mpr (fun y => z (mck_iff.mp y))
          rw [hcn] at eb2
          exact ih' _ v pl br lo _ eb2
  · obtain ⟨l6, v, pl, br, lo⟩ := y
    dsimp only
    refine aw rfl rfl ?_
    refine aw rfl rfl ?_
    refine aw_getf rfl mg_121 rfl ?_
    refine aw rfl rfl ?_
    refine aw_getfE rfl mg_121 rfl (congrArg Value.int m1) ?_
    refine aw_ialdE rfl mg_134 rfl (by omega) (by decide) mk ?_
    refine aw_igtn rfl (fun c19 => ?_) (fun c19 => by omega)
    refine aw rfl rfl ?_
    exact aw_iret rfl rfl (q _ _ _ _)
end M1
end
section
def rI : Option Nat → Int32
  | none => -1
  | some j => nI j
/-- a row filled up to i -/
def CU (T : Sd) (ct : Nat → Int32) (V : Nat → Nat → Nat) (i : Nat) : Prop := ∀ l w, w < 4 → 4 * l + w < i → lieOK T l → ct (4 * l + w) = nI (V l w)
theorem CU.no {T : Sd} {ct : Nat → Int32} {V : Nat → Nat → Nat} {l w : Nat} (h : CU T ct V (4 * l + w)) (hw : w < 4) (hn : ¬ lieOK T l) : CU T ct V (4 * l + w + 1) := by
  intro l' w' hw' hlt hl'
  by_cases e : 4 * l' + w' = 4 * l + w
  · have e1 : l' = l := by omega
    subst e1
    exact absurd hl' hn
  · exact h l' w' hw' (by omega) hl'
theorem CU.up {T : Sd} {ct : Nat → Int32} {V : Nat → Nat → Nat} {l w : Nat} {z : Int32} (h : CU T ct V (4 * l + w)) (hw : w < 4) (hz : lieOK T l → z = nI (V l w)) : CU T (upd ct (4 * l + w) z) V (4 * l + w + 1) := by
  intro l' w' hw' hlt hl'
  by_cases e : 4 * l' + w' = 4 * l + w
  · have e1 : l' = l := by omega
    have e2 : w' = w := by omega
    subst e1 e2
    rw [pk_us]
    exact hz hl'
  · rw [pk_un e]
    exact h l' w' hw' (by omega) hl'
theorem n_4 (i : Nat) : ∃ l w : Nat, w < 4 ∧ i = 4 * l + w := ⟨i / 4, i % 4, by omega, by omega⟩
section M1
variable {g : am_H} {k : Mk} {v pl : Nat → Int32} {br lo : Int32} {c ct pr pt cm bf bt : Nat → Int32}
variable {lv : Nat} {T : Sd} {W : Nat → Lw}
theorem c_X11_earlier {Q : Option Value → am_H → Prop} (hM : MR k lv T W) (hG : GS T) {F : Nat → Nat → Nat} {x : Int32} {hv : Nat} {r : Option Nat} (hr : ∀ j, r = some j → j < T.1 3) (hc : CT T c F) (hF : ∀ l w, F l w < 300000000) (q : ∀ v pl br lo c' ct', CT T c' (fun l w => lay T (lwf W) F r (fun _ => 6 * hv) l w x) → Q none (mh g k v pl br lo c' ct' pr pt cm bf bt)) : AC am_P 6 158 259 [.ref 121, .int (rI r), .int x, .int (nI hv)] (mh g k v pl br lo c ct pr pt cm bf bt) Q := by
  refine AC.of (ls := [_, _, _, _, _, _]) rfl ?_
  have hM0 := hM
  have hG0 := hG
  obtain ⟨m0, m1, mr, mw, mf, mk, mli, mt, ms, msq, moc, mwy, msp, mlw⟩ := hM
  obtain ⟨⟨g0, g0x⟩, ⟨g1, g1x⟩, ⟨g2, g2x⟩, ⟨g3, g3x⟩, g4, ⟨g5, g5x⟩, g6, gsq, goc, gwt, gsp, gfr⟩ := hG
  refine aw_c (v := nI 0) rfl (by decide) ?_
  refine aw_ist (ls' := [_, _, _, _, _, _]) rfl rfl ?_
  refine aw_loop (α := Option Value × (Nat → Int32) × (Nat → Int32) × Int32 × Int32 × (Nat → Int32)) (ll := fun i y => [some (.ref 121), some (.int (rI r)), some (.int x), some (.int (nI hv)), some (.int (nI i)), y.1]) (hh := fun _ y => mh g k y.2.1 y.2.2.1 y.2.2.2.1 y.2.2.2.2.1 c y.2.2.2.2.2 pr pt cm bf bt) (I := fun i y => CU T y.2.2.2.2.2 (fun l w => lay T (lwf W) F r (fun _ => 6 * hv) l w x) i) (N := 384) (fun i y hi hI ih => ?_) (fun y hI => ?_) 0 (none, v, pl, br, lo, ct) (Nat.zero_le _) (fun l w _ h => absurd h (Nat.not_lt_zero _))
  · obtain ⟨l5, v, pl, br, lo, ct⟩ := y
    dsimp only at hI ⊢
    obtain ⟨l, w, hw, rfl⟩ := n_4 i
    have hl96 : l < 96 := by omega
    have eh : ∀ z, T.2 0 (l / 3) = nI 6 → lay T (lwf W) F r (fun _ => 6 * hv) l w z = 6 * hv := fun z hz => by unfold lay; rw [if_pos (show hm T l = true from decide_eq_true hz)]
    have en : ∀ z, ¬ T.2 0 (l / 3) = nI 6 → lay T (lwf W) F r (fun _ => 6 * hv) l w z = va T (lwf W) F l w (act T (lwf W) F r l w z) z := fun z hz => by unfold lay; rw [if_neg (show ¬ hm T l = true from fun y => hz (of_decide_eq_true y))]
    have har := fun z => act_le (T := T) (LW := lwf W) (F := F) (l := l) (w := w) (x := z) hr
    cases r with
    | none =>
      refine aw rfl rfl ?_
      refine aw_c (v := nI 384) rfl (by decide) ?_
      refine aw_igen rfl (fun c8 => by omega) (fun c8 => ?_)
      refine aw rfl rfl ?_
      refine aw rfl rfl ?_
      refine aw_cv (d1 := 2) (L1 := 43) rfl rfl mg_121 rfl rfl (by decide) (by decide) (Nat.le_of_ble_eq_true rfl) (c_X11_isSquare hM0 hG0 (by omega) hw (fun hl => ?_) (fun hl => ?_))
      · refine aw_ne rfl (fun _ => ?_) (fun c => absurd c (by decide))
        refine aw rfl rfl ?_
        refine aw rfl rfl ?_
        refine aw_cv (d1 := 1) (L1 := 22) rfl rfl mg_121 rfl rfl (by decide) (by decide) (Nat.le_of_ble_eq_true rfl) (c_so hM0 hG0 hl96 hw hl.2.1 hl.2.2.1 ?_)
        refine aw_c (v := nI 6) rfl (by decide) ?_
        refine aw_ine rfl (fun c31 => ?_) (fun c31 => ?_)
        · refine aw rfl rfl ?_
          refine aw_ge rfl (fun c => absurd c (by decide)) (fun _ => ?_)
          refine aw rfl rfl ?_
          refine aw rfl rfl ?_
          refine aw rfl rfl ?_
          refine aw_cv (d1 := 5) (L1 := 132) rfl rfl mg_121 rfl rfl (by decide) (by decide) (Nat.le_of_ble_eq_true rfl) (c_X11_bestOf hM0 hG0 hc hF hl hw (fun v pl br lo => ?_))
          have hax := (har x).1
          have ea : bs1 (bs (fun a => va T (lwf W) F l w a x) (cnB T l) (T.1 3 + 1)) = nI (act T (lwf W) F none l w x) := by
            obtain ⟨p, hp⟩ := bs_some (T := T) (l := l) (f := fun a => va T (lwf W) F l w a x)
            show _ = nI (bsA (bs _ _ _))
            rw [hp]
            rfl
          rw [ea]
          refine aw rfl rfl ?_
          refine aw_ist (ls' := [_, _, _, _, _, _]) rfl rfl ?_
          refine aw rfl rfl ?_
          refine aw_getf rfl mg_121 rfl ?_
          refine aw rfl rfl ?_
          refine aw rfl rfl ?_
          refine aw rfl rfl ?_
          refine aw rfl rfl ?_
          refine aw rfl rfl ?_
          refine aw_cv (d1 := 4) (L1 := 107) rfl rfl mg_121 rfl rfl (by decide) (by decide) (Nat.le_of_ble_eq_true rfl) (c_X11_valueOf hM0 hG0 hc hl hw (by omega) (fun v pl br lo => ?_))
          refine aw_iastU rfl mg_160 rfl (by omega) (by decide) (by decide) mu_160 ?_
          refine aw_incn (c := 1) (ls' := [_, _, _, _, _, _]) rfl rfl (by decide) rfl ?_
          refine aw rfl rfl ?_
          exact ih (_, v, pl, br, lo, _) (hI.up hw (fun _ => by rw [en x c31]))
        · refine aw rfl rfl ?_
          refine aw_getf rfl mg_121 rfl ?_
          refine aw rfl rfl ?_
          refine aw_c (v := nI 6) rfl (by decide) ?_
          refine aw rfl rfl ?_
          refine aw_muln rfl ?_
          refine aw_iastU rfl mg_160 rfl (by omega) (by decide) (by decide) mu_160 ?_
          refine aw rfl rfl ?_
          refine aw_incn (c := 1) (ls' := [_, _, _, _, _, _]) rfl rfl (by decide) rfl ?_
          refine aw rfl rfl ?_
          exact ih (_, v, pl, br, lo, _) (hI.up hw (fun _ => by rw [eh x c31]))
      · refine aw_ne rfl (fun c => absurd (by decide) c) (fun _ => ?_)
        refine aw rfl rfl ?_
        refine aw_incn (c := 1) (ls' := [_, _, _, _, _, _]) rfl rfl (by decide) rfl ?_
        refine aw rfl rfl ?_
        exact ih (_, v, pl, br, lo, _) (hI.no hw hl)
    | some j =>
      have hj := hr j rfl
      refine aw rfl rfl ?_
      refine aw_c (v := nI 384) rfl (by decide) ?_
      refine aw_igen rfl (fun c8 => by omega) (fun c8 => ?_)
      refine aw rfl rfl ?_
      refine aw rfl rfl ?_
      refine aw_cv (d1 := 2) (L1 := 43) rfl rfl mg_121 rfl rfl (by decide) (by decide) (Nat.le_of_ble_eq_true rfl) (c_X11_isSquare hM0 hG0 (by omega) hw (fun hl => ?_) (fun hl => ?_))
      · refine aw_ne rfl (fun _ => ?_) (fun c => absurd c (by decide))
        refine aw rfl rfl ?_
        refine aw rfl rfl ?_
        refine aw_cv (d1 := 1) (L1 := 22) rfl rfl mg_121 rfl rfl (by decide) (by decide) (Nat.le_of_ble_eq_true rfl) (c_so hM0 hG0 hl96 hw hl.2.1 hl.2.2.1 ?_)
        refine aw_c (v := nI 6) rfl (by decide) ?_
        refine aw_ine rfl (fun c31 => ?_) (fun c31 => ?_)
        · refine aw rfl rfl ?_
          refine aw_gen rfl ?_
          refine aw rfl rfl ?_
          refine aw rfl rfl ?_
          refine aw rfl rfl ?_
          refine aw_cv (d1 := 2) (L1 := 43) rfl rfl mg_121 rfl rfl (by decide) (by decide) (Nat.le_of_ble_eq_true rfl) (c_X11_canKick hM0 hG0 hl hw (by omega) (fun z => ?_) (fun z => ?_))
          · refine aw_eq rfl (fun c => absurd c (by decide)) (fun _ => ?_)
            refine aw rfl rfl ?_
            refine aw rfl rfl ?_
            refine aw_ist (ls' := [_, _, _, _, _, _]) rfl rfl ?_
            refine aw rfl rfl ?_
            refine aw_getf rfl mg_121 rfl ?_
            refine aw rfl rfl ?_
            refine aw rfl rfl ?_
            refine aw rfl rfl ?_
            refine aw rfl rfl ?_
            refine aw rfl rfl ?_
            refine aw_cv (d1 := 4) (L1 := 107) rfl rfl mg_121 rfl rfl (by decide) (by decide) (Nat.le_of_ble_eq_true rfl) (c_X11_valueOf hM0 hG0 hc hl hw (by omega) (fun v pl br lo => ?_))
            refine aw_iastU rfl mg_160 rfl (by omega) (by decide) (by decide) mu_160 ?_
            refine aw_incn (c := 1) (ls' := [_, _, _, _, _, _]) rfl rfl (by decide) rfl ?_
            refine aw rfl rfl ?_
            exact ih (_, v, pl, br, lo, _) (hI.up hw (fun _ => by rw [en x c31]; show nI _ = nI (va T (lwf W) F l w (if mck T l j = true then j else T.1 3) x); rw [if_pos (mck_iff.mpr z)]))
          · refine aw_eq rfl (fun _ => ?_) (fun c => absurd (by decide) c)
            refine aw rfl rfl ?_
            refine aw_getf rfl mg_121 rfl ?_
            refine aw rfl rfl ?_
            refine aw_getfE rfl mg_121 rfl (congrArg Value.int m1) ?_
            refine aw_ialdE rfl mg_134 rfl (by omega) (by decide) mk ?_
            refine aw_ist (ls' := [_, _, _, _, _, _]) rfl rfl ?_
            refine aw rfl rfl ?_
            refine aw_getf rfl mg_121 rfl ?_
            refine aw rfl rfl ?_
            refine aw rfl rfl ?_
            refine aw rfl rfl ?_
            refine aw rfl rfl ?_
            refine aw rfl rfl ?_
            refine aw_cv (d1 := 4) (L1 := 107) rfl rfl mg_121 rfl rfl (by decide) (by decide) (Nat.le_of_ble_eq_true rfl) (c_X11_valueOf hM0 hG0 hc hl hw (by omega) (fun v pl br lo => ?_))
            refine aw_iastU rfl mg_160 rfl (by omega) (by decide) (by decide) mu_160 ?_
            refine aw_incn (c := 1) (ls' := [_, _, _, _, _, _]) rfl rfl (by decide) rfl ?_
            refine aw rfl rfl ?_
            exact ih (_, v, pl, br, lo, _) (hI.up hw (fun _ => by rw [en x c31]; show nI _ = nI (va T (lwf W) F l w (if mck T l j = true then j else T.1 3) x); rw [if_neg (fun y => z (mck_iff.mp y))]))
        · refine aw rfl rfl ?_
          refine aw_getf rfl mg_121 rfl ?_
          refine aw rfl rfl ?_
          refine aw_c (v := nI 6) rfl (by decide) ?_
          refine aw rfl rfl ?_
          refine aw_muln rfl ?_
          refine aw_iastU rfl mg_160 rfl (by omega) (by decide) (by decide) mu_160 ?_
          refine aw rfl rfl ?_
          refine aw_incn (c := 1) (ls' := [_, _, _, _, _, _]) rfl rfl (by decide) rfl ?_
          refine aw rfl rfl ?_
          exact ih (_, v, pl, br, lo, _) (hI.up hw (fun _ => by rw [eh x c31]))
      · refine aw_ne rfl (fun c => absurd (by decide) c) (fun _ => ?_)
        refine aw rfl rfl ?_
        refine aw_incn (c := 1) (ls' := [_, _, _, _, _, _]) rfl rfl (by decide) rfl ?_
        refine aw rfl rfl ?_
        exact ih (_, v, pl, br, lo, _) (hI.no hw hl)
  · obtain ⟨l5, v, pl, br, lo, ct⟩ := y
    try dsimp only at hI ⊢
    refine aw rfl rfl ?_
    refine aw_c (v := nI 384) rfl (by decide) ?_
    refine aw_igen rfl (fun c8 => ?_) (fun c8 => by omega)
    refine aw_c (v := nI 0) rfl (by decide) ?_
    refine aw_ist (ls' := [_, _, _, _, _, _]) rfl rfl ?_
    refine aw_loop (α := Nat → Int32) (ll := fun i y => [some (.ref 121), some (.int (rI r)), some (.int x), some (.int (nI hv)), some (.int (nI i)), l5]) (hh := fun _ y => mh g k v pl br lo y ct pr pt cm bf bt) (I := fun i y => CU T y (fun l w => lay T (lwf W) F r (fun _ => 6 * hv) l w x) i) (N := 384) (fun i y hi hJ ih => ?_) (fun y hJ => ?_) 0 c (Nat.zero_le _) (fun l w _ h => absurd h (Nat.not_lt_zero _))
    · skip
      obtain ⟨l, w, hw, rfl⟩ := n_4 i
      refine aw rfl rfl ?_
      refine aw_c (v := nI 384) rfl (by decide) ?_
      refine aw_igen rfl (fun c117 => by omega) (fun c117 => ?_)
      refine aw rfl rfl ?_
      refine aw_getf rfl mg_121 rfl ?_
      refine aw rfl rfl ?_
      refine aw rfl rfl ?_
      refine aw_getf rfl mg_121 rfl ?_
      refine aw rfl rfl ?_
      refine aw_iald rfl mg_160 rfl (by omega) (by decide) ?_
      refine aw_iastU rfl mg_159 rfl (by omega) (by decide) (by decide) mu_159 ?_
      refine aw_incn (c := 1) (ls' := [_, _, _, _, _, _]) rfl rfl (by decide) rfl ?_
      refine aw rfl rfl ?_
      exact ih _ (hJ.up hw (fun hl => hI l w hw (by omega) hl))
    · skip
      refine aw rfl rfl ?_
      refine aw_c (v := nI 384) rfl (by decide) ?_
      refine aw_igen rfl (fun c117 => ?_) (fun c117 => by omega)
      refine aw rfl rfl ?_
      refine aw_getf rfl mg_121 rfl ?_
      refine aw_c (v := nI 384) rfl (by decide) ?_
      refine aw_c (v := nI 0) rfl (by decide) ?_
      refine aw_iastU rfl mg_159 rfl (by omega) (by decide) (by decide) mu_159 ?_
      exact aw_vret rfl rfl (q _ _ _ _ _ _ ⟨fun l w hl hw => by have := hl.1; rw [pk_un (by omega)]; exact hJ l w hw (by omega) hl, pk_us⟩)
theorem lay_eq {T : Sd} {LW : LWt} {r : Option Nat} {n t l w : Nat} : lay T LW (Fc T LW r (hm T) n (t + T.1 5)) r (fun _ => 6 * 6 ^ n) l w (nI t) = Fc T LW r (hm T) (n + 1) t l w := by
  show _ = lay T LW _ r (fun l => bif hm T l then 6 ^ (n + 1) else 0) l w (nI t)
  unfold lay
  by_cases h : hm T l = true
  · rw [if_pos h, if_pos h]
    show 6 * 6 ^ n = bif hm T l then 6 ^ (n + 1) else 0
    rw [h, Nat.pow_succ, Nat.mul_comm]
    rfl
  · rw [if_neg h, if_neg h]
theorem c_X11_fillsFrom {Q : Option Value → am_H → Prop} (hM : MR k lv T W) (hG : GS T) {n d t : Nat} {r : Option Nat} (hr : ∀ j, r = some j → j < T.1 3) (hn : n ≤ 10) (hd : d ≤ n) (ht : t < 1000000) (q : ∀ v pl br lo c' ct', CT T c' (Fc T (lwf W) r (hm T) (n - d) (t + d * T.1 5)) → Q none (mh g k v pl br lo c' ct' pr pt cm bf bt)) : AC am_P 7 183 256 [.ref 121, .int (nI n), .int (nI d), .int (rI r), .int (nI t)] (mh g k v pl br lo c ct pr pt cm bf bt) Q := by
  refine AC.of (ls := [_, _, _, _, _, _]) rfl ?_
  have hM0 := hM
  have hG0 := hG
  obtain ⟨m0, m1, mr, mw, mf, mk, mli, mt, ms, msq, moc, mwy, msp, mlw⟩ := hM
  obtain ⟨⟨g0, g0x⟩, ⟨g1, g1x⟩, ⟨g2, g2x⟩, ⟨g3, g3x⟩, g4, ⟨g5, g5x⟩, g6, gsq, goc, gwt, gsp, gfr⟩ := hG
  refine aw_c (v := nI 0) rfl (by decide) ?_
  refine aw_ist (ls' := [_, _, _, _, _, _]) rfl rfl ?_
  refine aw_loop (α := Nat → Int32) (ll := fun i y => [some (.ref 121), some (.int (nI n)), some (.int (nI d)), some (.int (rI r)), some (.int (nI t)), some (.int (nI i))]) (hh := fun _ y => mh g k v pl br lo y ct pr pt cm bf bt) (I := fun i y => CU T y (fun l _ => bif hm T l then 1 else 0) i ∧ (384 < i → y 384 = nI 0)) (N := 385) (fun i y hi hI ih => ?_) (fun y hI => ?_) 0 c (Nat.zero_le _) ⟨fun l w _ h => absurd h (Nat.not_lt_zero _), fun h => absurd h (by omega)⟩
  · skip
    obtain ⟨l, w, hw, rfl⟩ := n_4 i
    have hsq : l < 96 → lieOK T l → k.2.1 24 (32 * lv + 8 * (l / 3 / 8) + l / 3 % 8) = T.2 0 (l / 3) := fun _ h => by rw [msq _ _ h.2.1 h.2.2.1, show l / 3 / 8 * 8 + l / 3 % 8 = l / 3 by omega]
    refine aw rfl rfl ?_
    refine aw_c (v := nI 385) rfl (by decide) ?_
    refine aw_igen rfl (fun c8 => by omega) (fun c8 => ?_)
    refine aw rfl rfl ?_
    refine aw_getf rfl mg_121 rfl ?_
    refine aw rfl rfl ?_
    refine aw rfl rfl ?_
    refine aw rfl rfl ?_
    refine aw_cv (d1 := 2) (L1 := 43) rfl rfl mg_121 rfl rfl (by decide) (by decide) (Nat.le_of_ble_eq_true rfl) (c_X11_isHome m1 m0 (by omega) hw (fun z1 z2 => ?_) (fun z => ?_) (by omega))
    · refine aw_eq rfl (fun c => absurd c (by decide)) (fun _ => ?_)
      refine aw rfl rfl ?_
      refine aw rfl rfl ?_
      refine aw_cv (d1 := 2) (L1 := 43) rfl rfl mg_121 rfl rfl (by decide) (by decide) (Nat.le_of_ble_eq_true rfl) (c_X11_isSquare hM0 hG0 (by omega) hw (fun hl => ?_) (fun hn => ?_))
      · refine aw_eq rfl (fun c => absurd c (by decide)) (fun _ => ?_)
        refine aw_c (v := nI 1) rfl (by decide) ?_
        refine aw rfl rfl ?_
        refine aw_iastU rfl mg_159 rfl (by omega) (by decide) (by decide) mu_159 ?_
        refine aw_incn (c := 1) (ls' := [_, _, _, _, _, _]) rfl rfl (by decide) rfl ?_
        refine aw rfl rfl ?_
        exact ih _ ⟨hI.1.up hw (fun hl => by have e : hm T l = true := decide_eq_true ((hsq z1 hl).symm.trans z2); rw [e]; rfl), fun h => by
          have e : 4 * l + w = 384 := by omega
          rw [e]
          exact absurd e (by omega)⟩
      · refine aw_eq rfl (fun _ => ?_) (fun c => absurd (by decide) c)
        refine aw_c (v := nI 0) rfl (by decide) ?_
        refine aw_iastU rfl mg_159 rfl (by omega) (by decide) (by decide) mu_159 ?_
        refine aw_incn (c := 1) (ls' := [_, _, _, _, _, _]) rfl rfl (by decide) rfl ?_
        refine aw rfl rfl ?_
        exact ih _ ⟨hI.1.up hw (fun hl => absurd hl hn), fun h => by
          have e : 4 * l + w = 384 := by omega
          rw [e]
          exact pk_us⟩
    · refine aw_eq rfl (fun _ => ?_) (fun c => absurd (by decide) c)
      refine aw_c (v := nI 0) rfl (by decide) ?_
      refine aw_iastU rfl mg_159 rfl (by omega) (by decide) (by decide) mu_159 ?_
      refine aw_incn (c := 1) (ls' := [_, _, _, _, _, _]) rfl rfl (by decide) rfl ?_
      refine aw rfl rfl ?_
      exact ih _ ⟨hI.1.up hw (fun hl => by have e : hm T l = false := decide_eq_false (fun y => z hl.1 ((hsq hl.1 hl).trans y)); rw [e]; rfl), fun h => by
        have e : 4 * l + w = 384 := by omega
        rw [e]
        exact pk_us⟩
  · skip
    have hI0 : CT T y (Fc T (lwf W) r (hm T) 0 (t + n * T.1 5)) := ⟨fun l w hl hw => hI.1 l w hw (by have := hl.1; omega) hl, hI.2 (by omega)⟩
    refine aw rfl rfl ?_
    refine aw_c (v := nI 385) rfl (by decide) ?_
    refine aw_igen rfl (fun c8 => ?_) (fun c8 => by omega)
    refine aw rfl rfl ?_
    refine aw_c (v := nI 1) rfl (by decide) ?_
    refine aw rfl rfl ?_
    refine aw_ist (ls' := [_, _, _, _, _, _]) rfl rfl ?_
    skip
    have key : ∀ m (l5 : Int32) v pl br lo c ct, m ≤ n - d → l5 = nI n - nI 1 - nI m → CT T c (Fc T (lwf W) r (hm T) m (t + (n - m) * T.1 5)) → AW am_P 7 183 256 52 [some (.ref 121), some (.int (nI n)), some (.int (nI d)), some (.int (rI r)), some (.int (nI t)), some (.int l5)] [] (mh g k v pl br lo c ct pr pt cm bf bt) Q := by
      intro m
      generalize hj : n - d - m = j
      induction j generalizing m with
      | zero =>
        intro l5 v pl br lo c ct hmx he hc
        have em : m = n - d := by omega
        subst em
        have e5 : l5 < nI d := by
          rw [he]
          by_cases h0 : d = 0
          · subst h0
            show nI n - nI 1 - nI n < nI 0
            have : ∀ y : Fin 11, nI y.val - nI 1 - nI y.val < nI 0 := by decide
            exact this ⟨n, by omega⟩
          · rw [pk_sub (by omega), pk_sub (by omega), show n - 1 - (n - d) = d - 1 by omega]
            exact nI_lt (by omega) (by omega)
        refine aw rfl rfl ?_
        refine aw rfl rfl ?_
        refine aw_ilt rfl (fun c55 => ?_) (fun c55 => absurd e5 c55)
        exact aw_vret rfl rfl (by rw [show n - (n - d) = d by omega] at hc; exact q _ _ _ _ _ _ hc)
      | succ j ih =>
        intro l5 v pl br lo c ct hmx he hc
        have hmn : m + 1 ≤ n - d := by omega
        rw [pk_sub (by omega), pk_sub (by omega)] at he
        subst he
        have hf6 : 6 ^ m ≤ 6 ^ 9 := Nat.pow_le_pow_right (by decide) (by omega)
        have hFb : ∀ l w, Fc T (lwf W) r (hm T) m (t + (n - m) * T.1 5) l w < 300000000 := fun l w => Nat.lt_of_le_of_lt (Fc_le hG0 hr m _ l w) (Nat.lt_of_le_of_lt hf6 (by decide))
        refine aw rfl rfl ?_
        refine aw rfl rfl ?_
        refine aw_iltn rfl (fun c55 => by omega) (fun c55 => ?_)
        refine aw rfl rfl ?_
        refine aw rfl rfl ?_
        refine aw rfl rfl ?_
        refine aw rfl rfl ?_
        refine aw rfl rfl ?_
        refine aw_getf rfl mg_121 rfl ?_
        refine aw rfl rfl ?_
        refine aw_getfE rfl mg_121 rfl (congrArg Value.int m1) ?_
        refine aw_ialdE rfl mg_143 rfl (by omega) (by decide) mt ?_
        refine aw_muln rfl ?_
        refine aw_addn rfl ?_
        refine aw rfl rfl ?_
        refine aw_c (v := nI 1) rfl (by decide) ?_
        refine aw_subn rfl (by omega) ?_
        refine aw rfl rfl ?_
        refine aw_subn rfl (by omega) ?_
        refine aw_cs (d1 := 0) (L1 := 0) rfl rfl (by decide) (by decide) (Nat.le_of_ble_eq_true rfl) (c_sixes (by omega) ?_)
        refine aw_cv (d1 := 6) (L1 := 158) rfl rfl mg_121 rfl rfl (by decide) (by decide) (Nat.le_of_ble_eq_true rfl) (c_X11_earlier hM0 hG0 hr hc hFb (fun v pl br lo c ct hc2 => ?_))
        refine aw_inc (c := -1) (ls' := [_, _, _, _, _, _]) rfl rfl (by decide) rfl ?_
        refine aw rfl rfl ?_
        refine ih (m + 1) (by omega) _ _ _ _ _ _ _ hmn ?_ ?_
        · rw [pk_sub (show 1 ≤ n by omega)]
          by_cases h0 : n - 1 - m = 0
          · rw [h0, show n - 1 = m by omega]
            have : ∀ y : Fin 11, nI 0 + -1 = nI y.val - nI (y.val + 1) := by decide
            exact this ⟨m, by omega⟩
          · rw [pk_sub (by omega), show n - 1 - m = n - 1 - (m + 1) + 1 by omega, ← nI_add]
            generalize nI (n - 1 - (m + 1)) = y
            rw [Int32.add_assoc, show nI 1 + (-1 : Int32) = 0 by decide, Int32.add_zero]
        · refine ⟨fun l w hl hw => ?_, hc2.2⟩
          rw [hc2.1 l w hl hw, show n - 1 - (n - 1 - m) = m by omega]
          have e2 : t + (n - m) * T.1 5 = t + (n - 1 - m) * T.1 5 + T.1 5 := by
            rw [show n - m = n - 1 - m + 1 by omega, Nat.add_mul]
            omega
          rw [e2]
          refine congrArg nI (lay_eq.trans ?_)
          rw [show n - (m + 1) = n - 1 - m by omega]
    exact key 0 _ v pl br lo y ct (Nat.zero_le _) (by show nI n - nI 1 = nI n - nI 1 - 0; exact (Int32.sub_zero _).symm) hI0
theorem c_X11_fills {Q : Option Value → am_H → Prop} (hM : MR k lv T W) (hG : GS T) {n t : Nat} (hn : n ≤ 10) (ht : t < 1000000) (h5 : k.2.1 53 5 = nI t) (q : ∀ v pl br lo c' ct', CT T c' (Fc T (lwf W) none (hm T) n t) → Q none (mh g k v pl br lo c' ct' pr pt cm bf bt)) : AC am_P 8 208 255 [.ref 121, .int (nI n)] (mh g k v pl br lo c ct pr pt cm bf bt) Q := by
  refine AC.of (ls := [_, _]) rfl ?_
  refine aw rfl rfl ?_
  refine aw rfl rfl ?_
  refine aw_c (v := nI 0) rfl (by decide) ?_
  refine aw_c (v := -1) rfl (by decide) ?_
  refine aw rfl rfl ?_
  refine aw_getf rfl mg_121 rfl ?_
  refine aw_c (v := nI 5) rfl (by decide) ?_
  refine aw_ialdE rfl mg_157 rfl (by omega) (by decide) h5 ?_
  refine aw_cv (d1 := 7) (L1 := 183) rfl rfl mg_121 rfl rfl (by decide) (by decide) (Nat.le_of_ble_eq_true rfl) (c_X11_fillsFrom (r := none) (d := 0) hM hG (fun j z => nomatch z) hn (Nat.zero_le _) ht (fun v pl br lo c' ct' h => ?_))
  exact aw_vret rfl rfl (q _ _ _ _ _ _ (by rw [show t + 0 * T.1 5 = t by omega] at h; exact h))
end M1
end
section
/-! ===== the stone, as both hold it: 0 square, 1 face, 2 lives, 3 lives lost, 4 kicks and waits done, 5 touches, 6 state ===== -/
def NR (T : Sd) (f : Nat → Int32) (S : Nat → Nat) : Prop := f 0 = nI (S 0 % 8) ∧ f 1 = nI (S 0 / 8) ∧ f 2 = nI (S 1) ∧ f 3 = nI (S 2) ∧ f 4 = nI (S 4) ∧ f 5 = nI (S 4 * T.1 5) ∧ f 6 = nI (S 5) ∧ f 7 = nI (if S 6 = 2 then 1 else 0) ∧ f 8 = nI (S 3)
def SG (T : Sd) (S : Nat → Nat) : Prop := lieOK T (S 0 * 3 + S 1) ∧ S 1 < 3 ∧ S 2 ≤ T.1 4 ∧ S 4 ≤ 1000 ∧ S 5 ≤ 1000 ∧ S 3 ≤ 2 ∧ (S 6 = 2 ∨ (hm T (S 0 * 3 + S 1) = true ∧ S 6 = 1) ∨ (hm T (S 0 * 3 + S 1) = false ∧ S 6 = 0))
def bI (b : Bool) : Int32 := bif b then nI 1 else nI 0
def fr (a m : Nat) (b : Bool) : Nat := (bif b then m else a) / Nat.gcd a m
def sp (x : Int32) (lo hi : Nat) (f : Nat → Int32) : Int32 := if nI lo ≤ x ∧ x ≤ nI hi then f x.toNatClampNeg else -1
theorem sp_in {lo hi n : Nat} {f : Nat → Int32} (h1 : lo ≤ n) (h2 : n ≤ hi) (h3 : hi < 2147483648) : sp (nI n) lo hi f = f n := by
  unfold sp
  rw [if_pos ⟨nI_le h1 (by omega), nI_le h2 h3⟩, nI_clamp (by omega)]
theorem sp_out {x : Int32} {lo hi : Nat} {f : Nat → Int32} (h : ¬ nI lo ≤ x ∨ ¬ x ≤ nI hi) : sp x lo hi f = -1 := by
  unfold sp
  rw [if_neg (fun z => h.elim (fun y => y z.1) (fun y => y z.2))]
theorem n_of3 {x : Int32} {lo hi : Nat} (h1 : nI lo ≤ x) (h2 : x ≤ nI hi) (h3 : hi < 2147483648) (h4 : lo < 2147483648) : ∃ n : Nat, x = nI n ∧ lo ≤ n ∧ n ≤ hi := by
  obtain ⟨n, hn, rfl⟩ := nI_of (x := x) (fun z => absurd (Int32.lt_of_le_of_lt h1 z) (nI_pos h4))
  exact ⟨n, rfl, (nI_leI h4 hn).mp h1, (nI_leI hn h3).mp h2⟩
theorem am_tg_out {a : Nat} {lo hi : Int} {offs : Array Int} {pc : Nat} {z : Int} (h : z < lo ∨ hi < z) : am_tg a lo hi offs pc z = some a := by
  unfold am_tg
  rw [if_pos h]
def cN (T : Sd) (LW : LWt) (S : Nat → Nat) (n : Nat) : Nat := if S 6 = 2 then 0 else Fc T LW none (hm T) n (S 4 * T.1 5) (S 0 * 3 + S 1) (S 2)
theorem p6_le {n : Nat} (h : n ≤ 10) : 6 ^ n < 100000000 := Nat.lt_of_le_of_lt (Nat.pow_le_pow_right (by decide) h) (by decide)
theorem p6_pos (n : Nat) : 0 < 6 ^ n := Nat.pow_pos (by decide)
theorem cN_le {T : Sd} {LW : LWt} {S : Nat → Nat} {n : Nat} (hG : GS T) : cN T LW S n ≤ 6 ^ n := by
  unfold cN
  by_cases h : S 6 = 2
  · rw [if_pos h]; exact Nat.zero_le _
  · rw [if_neg h]; exact Fc_le (r := none) hG (fun j z => nomatch z) _ _ _ _
section M1
variable {g : am_H} {k : Mk} {v pl : Nat → Int32} {br lo : Int32} {c ct pr pt cm bf bt : Nat → Int32}
variable {lv : Nat} {T : Sd} {W : Nat → Lw}
variable {S : Nat → Nat}
theorem l_common {Q : Option Value → am_H → Prop} : ∀ (y x : Nat) (l0 l1 : Int32) (l4 : Option Value), x < 2147483648 → y < 2147483648 → Q (some (.int (nI (Nat.gcd x y)))) (mh g k v pl br lo c ct pr pt cm bf bt) → AW am_P 0 0 263 4 [some (.int l0), some (.int l1), some (.int (nI x)), some (.int (nI y)), l4] [] (mh g k v pl br lo c ct pr pt cm bf bt) Q := by
  intro y
  induction y using Nat.strongRecOn with
  | _ y ih =>
    intro x l0 l1 l4 hx hy q
    refine aw rfl rfl ?_
    refine aw_eqn rfl (fun c5 => ?_) (fun c5 => ?_)
    · refine aw rfl rfl ?_
      exact aw_iret rfl rfl (by subst c5; rw [Nat.gcd_zero_right] at q; exact q)
    · refine aw rfl rfl ?_
      refine aw rfl rfl ?_
      refine aw_remn rfl (by omega) (by omega) (by omega) ?_
      refine aw_ist (ls' := [_, _, _, _, _]) rfl rfl ?_
      refine aw rfl rfl ?_
      refine aw_ist (ls' := [_, _, _, _, _]) rfl rfl ?_
      refine aw rfl rfl ?_
      refine aw_ist (ls' := [_, _, _, _, _]) rfl rfl ?_
      refine aw rfl rfl ?_
      exact ih (x % y) (Nat.mod_lt _ (by omega)) y _ _ _ hy (Nat.lt_of_le_of_lt (Nat.mod_le _ _) hx) (by rw [Nat.gcd_comm, ← Nat.gcd_rec, Nat.gcd_comm]; exact q)
theorem c_X11_common {Q : Option Value → am_H → Prop} {x y : Nat} (hx : x < 2147483648) (hy : y < 2147483648) (q : Q (some (.int (nI (Nat.gcd x y)))) (mh g k v pl br lo c ct pr pt cm bf bt)) : AC am_P 0 0 263 [.int (nI x), .int (nI y)] (mh g k v pl br lo c ct pr pt cm bf bt) Q := by
  refine AC.of (ls := [_, _, _, _, _]) rfl ?_
  refine aw rfl rfl ?_
  refine aw_ist (ls' := [_, _, _, _, _]) rfl rfl ?_
  refine aw rfl rfl ?_
  refine aw_ist (ls' := [_, _, _, _, _]) rfl rfl ?_
  exact l_common y x _ _ _ hx hy q
theorem c_X11_lineOf {Q : Option Value → am_H → Prop} {a m : Nat} {b : Bool} (ha : a < 2147483648) (hm : 0 < m) (hm2 : m < 2147483648) (q : Q (some (.int (nI (fr a m b)))) (mh g k v pl br lo c ct pr pt cm bf bt)) : AC am_P 1 24 262 [.int (nI a), .int (nI m), .int (bI b)] (mh g k v pl br lo c ct pr pt cm bf bt) Q := by
  refine AC.of (ls := [_, _, _, _]) rfl ?_
  have hg : 0 < Nat.gcd a m := Nat.gcd_pos_of_pos_right _ hm
  have hg2 : Nat.gcd a m < 2147483648 := Nat.lt_of_le_of_lt (Nat.gcd_le_right _ hm) hm2
  cases b
  · skip
    refine aw rfl rfl ?_
    refine aw rfl rfl ?_
    refine aw_cs (d1 := 0) (L1 := 0) rfl rfl (by decide) (by decide) (Nat.le_of_ble_eq_true rfl) (c_X11_common ha hm2 ?_)
    refine aw_ist (ls' := [_, _, _, _]) rfl rfl ?_
    refine aw rfl rfl ?_
    refine aw_eq rfl (fun _ => ?_) (fun c => absurd (by decide) c)
    refine aw rfl rfl ?_
    refine aw rfl rfl ?_
    refine aw_divn rfl (by omega) (by omega) (by omega) ?_
    exact aw_iret rfl rfl q
  · skip
    refine aw rfl rfl ?_
    refine aw rfl rfl ?_
    refine aw_cs (d1 := 0) (L1 := 0) rfl rfl (by decide) (by decide) (Nat.le_of_ble_eq_true rfl) (c_X11_common ha hm2 ?_)
    refine aw_ist (ls' := [_, _, _, _]) rfl rfl ?_
    refine aw rfl rfl ?_
    refine aw_eq rfl (fun c => absurd c (by decide)) (fun _ => ?_)
    refine aw rfl rfl ?_
    refine aw rfl rfl ?_
    refine aw rfl rfl ?_
    refine aw_divn rfl (by omega) (by omega) (by omega) ?_
    exact aw_iret rfl rfl q
theorem c_X11_isLong {Q : Option Value → am_H → Prop} {x : Int32} (q1 : ∀ n : Nat, n ≤ 10 → x = nI n → Q (some (.int (nI 1))) (mh g k v pl br lo c ct pr pt cm bf bt)) (q0 : (¬ nI 0 ≤ x ∨ ¬ x ≤ nI 10) → Q (some (.int (nI 0))) (mh g k v pl br lo c ct pr pt cm bf bt)) : AC am_P 1 22 254 [.int x] (mh g k v pl br lo c ct pr pt cm bf bt) Q := by
  refine AC.of (ls := [_]) rfl ?_
  refine aw rfl rfl ?_
  refine aw_c (v := nI 0) rfl (by decide) ?_
  refine aw_c (v := nI 10) rfl (by decide) ?_
  refine aw_cs (d1 := 0) (L1 := 0) rfl rfl (by decide) (by decide) (Nat.le_of_ble_eq_true rfl) (c_X11_in (fun p1 p2 => ?_) (fun p => ?_))
  · exact aw_iret rfl rfl (by obtain ⟨n, e, _, h⟩ := n_of3 p1 p2 (by decide) (by decide); exact q1 n h e)
  · exact aw_iret rfl rfl (q0 p)
theorem c_X11_stateNow {Q : Option Value → am_H → Prop} (hM : MR k lv T W) (hG : GS T) (hN : NR T (k.2.1 53) S) (hS : SG T S) (q1 : S 6 = 2 → Q (some (.int (nI 384))) (mh g k v pl br lo c ct pr pt cm bf bt)) (q0 : ¬ S 6 = 2 → Q (some (.int (nI (4 * (S 0 * 3 + S 1) + S 2)))) (mh g k v pl br lo c ct pr pt cm bf bt)) : AC am_P 1 23 221 [.ref 121] (mh g k v pl br lo c ct pr pt cm bf bt) Q := by
  refine AC.of (ls := [_]) rfl ?_
  have hM0 := hM
  have hG0 := hG
  obtain ⟨m0, m1, mr, mw, mf, mk, mli, mt, ms, msq, moc, mwy, msp, mlw⟩ := hM
  obtain ⟨⟨g0, g0x⟩, ⟨g1, g1x⟩, ⟨g2, g2x⟩, ⟨g3, g3x⟩, g4, ⟨g5, g5x⟩, g6, gsq, goc, gwt, gsp, gfr⟩ := hG
  have hN0 := hN
  have hS0 := hS
  obtain ⟨n0, n1, n2, n3, n4, n5, n6, n7, n8⟩ := hN
  obtain ⟨s0, s1, s2, s3, s4, s5, s6⟩ := hS
  by_cases e6 : S 6 = 2
  · rw [if_pos e6] at n7
    refine aw rfl rfl ?_
    refine aw_getf rfl mg_121 rfl ?_
    refine aw_c (v := nI 7) rfl (by decide) ?_
    refine aw_ialdE rfl mg_157 rfl (by omega) (by decide) n7 ?_
    refine aw_c (v := nI 1) rfl (by decide) ?_
    refine aw_ine rfl (fun c => absurd (by decide) c) (fun _ => ?_)
    refine aw_c (v := nI 384) rfl (by decide) ?_
    refine aw rfl rfl ?_
    exact aw_iret rfl rfl (q1 e6)
  · rw [if_neg e6] at n7
    refine aw rfl rfl ?_
    refine aw_getf rfl mg_121 rfl ?_
    refine aw_c (v := nI 7) rfl (by decide) ?_
    refine aw_ialdE rfl mg_157 rfl (by omega) (by decide) n7 ?_
    refine aw_c (v := nI 1) rfl (by decide) ?_
    refine aw_ine rfl (fun _ => ?_) (fun c => absurd c (by decide))
    refine aw rfl rfl ?_
    refine aw_getf rfl mg_121 rfl ?_
    refine aw_c (v := nI 0) rfl (by decide) ?_
    refine aw_ialdE rfl mg_157 rfl (by omega) (by decide) n0 ?_
    refine aw rfl rfl ?_
    refine aw_getf rfl mg_121 rfl ?_
    refine aw_c (v := nI 1) rfl (by decide) ?_
    refine aw_ialdE rfl mg_157 rfl (by omega) (by decide) n1 ?_
    refine aw rfl rfl ?_
    refine aw_getf rfl mg_121 rfl ?_
    refine aw_c (v := nI 2) rfl (by decide) ?_
    refine aw_ialdE rfl mg_157 rfl (by omega) (by decide) n2 ?_
    refine aw rfl rfl ?_
    refine aw_getf rfl mg_121 rfl ?_
    refine aw_c (v := nI 3) rfl (by decide) ?_
    refine aw_ialdE rfl mg_157 rfl (by omega) (by decide) n3 ?_
    refine aw_cs (d1 := 0) (L1 := 0) rfl rfl (by decide) (by decide) (Nat.le_of_ble_eq_true rfl) (c_num ?_)
    exact aw_iret rfl rfl (q0 e6)
theorem c_X11_isOver {Q : Option Value → am_H → Prop} (hM : MR k lv T W) (hG : GS T) (hN : NR T (k.2.1 53) S) (hS : SG T S) (q1 : ¬ S 6 = 0 → Q (some (.int (nI 1))) (mh g k v pl br lo c ct pr pt cm bf bt)) (q0 : S 6 = 0 → Q (some (.int (nI 0))) (mh g k v pl br lo c ct pr pt cm bf bt)) : AC am_P 3 64 236 [.ref 121] (mh g k v pl br lo c ct pr pt cm bf bt) Q := by
  refine AC.of (ls := [_]) rfl ?_
  have hM0 := hM
  have hG0 := hG
  obtain ⟨m0, m1, mr, mw, mf, mk, mli, mt, ms, msq, moc, mwy, msp, mlw⟩ := hM
  obtain ⟨⟨g0, g0x⟩, ⟨g1, g1x⟩, ⟨g2, g2x⟩, ⟨g3, g3x⟩, g4, ⟨g5, g5x⟩, g6, gsq, goc, gwt, gsp, gfr⟩ := hG
  have hN0 := hN
  have hS0 := hS
  obtain ⟨n0, n1, n2, n3, n4, n5, n6, n7, n8⟩ := hN
  obtain ⟨s0, s1, s2, s3, s4, s5, s6⟩ := hS
  have hl96 := s0.1
  have esq : k.2.1 24 (32 * lv + 8 * ((S 0 * 3 + S 1) / 3 / 8) + (S 0 * 3 + S 1) / 3 % 8) = T.2 0 ((S 0 * 3 + S 1) / 3) := by rw [msq _ _ s0.2.1 s0.2.2.1, show (S 0 * 3 + S 1) / 3 / 8 * 8 + (S 0 * 3 + S 1) / 3 % 8 = (S 0 * 3 + S 1) / 3 by omega]
  by_cases e6 : S 6 = 2
  · rw [if_pos e6] at n7
    refine aw rfl rfl ?_
    refine aw_getf rfl mg_121 rfl ?_
    refine aw_c (v := nI 7) rfl (by decide) ?_
    refine aw_ialdE rfl mg_157 rfl (by omega) (by decide) n7 ?_
    refine aw_c (v := nI 1) rfl (by decide) ?_
    refine aw_ieq rfl (fun _ => ?_) (fun c => absurd (by decide) c)
    refine aw_c (v := nI 1) rfl (by decide) ?_
    refine aw rfl rfl ?_
    exact aw_iret rfl rfl (q1 (by omega))
  · rw [if_neg e6] at n7
    refine aw rfl rfl ?_
    refine aw_getf rfl mg_121 rfl ?_
    refine aw_c (v := nI 7) rfl (by decide) ?_
    refine aw_ialdE rfl mg_157 rfl (by omega) (by decide) n7 ?_
    refine aw_c (v := nI 1) rfl (by decide) ?_
    refine aw_ieq rfl (fun c => absurd c (by decide)) (fun _ => ?_)
    refine aw rfl rfl ?_
    refine aw rfl rfl ?_
    refine aw_cv (d1 := 1) (L1 := 23) rfl rfl mg_121 rfl rfl (by decide) (by decide) (Nat.le_of_ble_eq_true rfl) (c_X11_stateNow hM0 hG0 hN0 hS0 (fun z => absurd z e6) (fun z => ?_))
    refine aw_cv (d1 := 2) (L1 := 43) rfl rfl mg_121 rfl rfl (by decide) (by decide) (Nat.le_of_ble_eq_true rfl) (c_X11_isHome m1 m0 (by omega) (by omega) (fun _ y => ?_) (fun y => ?_) (by omega))
    · refine aw_eq rfl (fun c => absurd c (by decide)) (fun _ => ?_)
      refine aw_c (v := nI 1) rfl (by decide) ?_
      refine aw rfl rfl ?_
      exact aw_iret rfl rfl (q1 (by rcases s6 with z | z | z; omega; omega; exact absurd (esq.symm.trans y) (of_decide_eq_false z.1)))
    · refine aw_eq rfl (fun _ => ?_) (fun c => absurd (by decide) c)
      refine aw_c (v := nI 0) rfl (by decide) ?_
      exact aw_iret rfl rfl (q0 (by rcases s6 with z | z | z; omega; exact absurd (esq.trans (of_decide_eq_true z.1)) (y hl96); exact z.2))
def a_now (T : Sd) (S : Nat → Nat) (x : Int32) : Int32 := if x = nI 0 then (if S 6 = 2 then -2 else nI (S 0 % 8)) else if x = nI 1 then (if S 6 = 2 then -2 else nI (S 0 / 8)) else if x = nI 2 then nI (S 1) else if x = nI 3 then nI (S 2) else if x = nI 4 then nI (S 4) else if x = nI 5 then nI (S 4 * T.1 5) else if x = nI 6 then nI (S 5) else if x = nI 7 then nI (S 6) else if x = nI 8 then nI (S 3) else -1
theorem x_out {x : Int32} {n : Nat} (hn : n < 2147483648) (h : ∀ j, j ≤ n → ¬ x = nI j) : x.toInt < 0 ∨ (n : Int) < x.toInt := by
  rcases Int.lt_or_le x.toInt 0 with g | g
  · exact Or.inl g
  · right
    rcases Int.lt_or_le (n : Int) x.toInt with g2 | g2
    · exact g2
    · exfalso
      have h1 : x.toInt.toNat ≤ n := by omega
      refine h _ h1 (Int32.toInt_inj.mp ?_)
      rw [nI_toInt (by omega)]
      omega
theorem c_X11_now {Q : Option Value → am_H → Prop} (hM : MR k lv T W) (hG : GS T) (hN : NR T (k.2.1 53) S) (hS : SG T S) {x : Int32} (q : Q (some (.int (a_now T S x))) (mh g k v pl br lo c ct pr pt cm bf bt)) : AC am_P 3 64 220 [.ref 121, .int x] (mh g k v pl br lo c ct pr pt cm bf bt) Q := by
  refine AC.of (ls := [_, _]) rfl ?_
  unfold a_now at q
  have hM0 := hM
  have hG0 := hG
  obtain ⟨m0, m1, mr, mw, mf, mk, mli, mt, ms, msq, moc, mwy, msp, mlw⟩ := hM
  obtain ⟨⟨g0, g0x⟩, ⟨g1, g1x⟩, ⟨g2, g2x⟩, ⟨g3, g3x⟩, g4, ⟨g5, g5x⟩, g6, gsq, goc, gwt, gsp, gfr⟩ := hG
  have hN0 := hN
  have hS0 := hS
  obtain ⟨n0, n1, n2, n3, n4, n5, n6, n7, n8⟩ := hN
  obtain ⟨s0, s1, s2, s3, s4, s5, s6⟩ := hS
  have hl96 := s0.1
  have esq : k.2.1 24 (32 * lv + 8 * ((S 0 * 3 + S 1) / 3 / 8) + (S 0 * 3 + S 1) / 3 % 8) = T.2 0 ((S 0 * 3 + S 1) / 3) := by rw [msq _ _ s0.2.1 s0.2.2.1, show (S 0 * 3 + S 1) / 3 / 8 * 8 + (S 0 * 3 + S 1) / 3 % 8 = (S 0 * 3 + S 1) / 3 by omega]
  by_cases e0 : x = nI 0
  · subst e0
    rw [if_pos rfl] at q
    by_cases e6 : S 6 = 2
    · rw [if_pos e6] at n7 q
      refine aw rfl rfl ?_
      refine aw_ts (z := 0) (tgt := 52) rfl (by decide) (by decide) ?_
      refine aw rfl rfl ?_
      refine aw_getf rfl mg_121 rfl ?_
      refine aw_c (v := nI 7) rfl (by decide) ?_
      refine aw_ialdE rfl mg_157 rfl (by omega) (by decide) n7 ?_
      refine aw_c (v := nI 1) rfl (by decide) ?_
      refine aw_ine rfl (fun c => absurd (by decide) c) (fun _ => ?_)
      refine aw_c (v := -2) rfl (by decide) ?_
      refine aw rfl rfl ?_
      exact aw_iret rfl rfl q
    · rw [if_neg e6] at n7 q
      refine aw rfl rfl ?_
      refine aw_ts (z := 0) (tgt := 52) rfl (by decide) (by decide) ?_
      refine aw rfl rfl ?_
      refine aw_getf rfl mg_121 rfl ?_
      refine aw_c (v := nI 7) rfl (by decide) ?_
      refine aw_ialdE rfl mg_157 rfl (by omega) (by decide) n7 ?_
      refine aw_c (v := nI 1) rfl (by decide) ?_
      refine aw_ine rfl (fun _ => ?_) (fun c => absurd c (by decide))
      refine aw rfl rfl ?_
      refine aw_getf rfl mg_121 rfl ?_
      refine aw rfl rfl ?_
      refine aw_ialdE rfl mg_157 rfl (by omega) (by decide) n0 ?_
      exact aw_iret rfl rfl q
  rw [if_neg e0] at q
  by_cases e1 : x = nI 1
  · subst e1
    rw [if_pos rfl] at q
    by_cases e6 : S 6 = 2
    · rw [if_pos e6] at n7 q
      refine aw rfl rfl ?_
      refine aw_ts (z := 1) (tgt := 52) rfl (by decide) (by decide) ?_
      refine aw rfl rfl ?_
      refine aw_getf rfl mg_121 rfl ?_
      refine aw_c (v := nI 7) rfl (by decide) ?_
      refine aw_ialdE rfl mg_157 rfl (by omega) (by decide) n7 ?_
      refine aw_c (v := nI 1) rfl (by decide) ?_
      refine aw_ine rfl (fun c => absurd (by decide) c) (fun _ => ?_)
      refine aw_c (v := -2) rfl (by decide) ?_
      refine aw rfl rfl ?_
      exact aw_iret rfl rfl q
    · rw [if_neg e6] at n7 q
      refine aw rfl rfl ?_
      refine aw_ts (z := 1) (tgt := 52) rfl (by decide) (by decide) ?_
      refine aw rfl rfl ?_
      refine aw_getf rfl mg_121 rfl ?_
      refine aw_c (v := nI 7) rfl (by decide) ?_
      refine aw_ialdE rfl mg_157 rfl (by omega) (by decide) n7 ?_
      refine aw_c (v := nI 1) rfl (by decide) ?_
      refine aw_ine rfl (fun _ => ?_) (fun c => absurd c (by decide))
      refine aw rfl rfl ?_
      refine aw_getf rfl mg_121 rfl ?_
      refine aw rfl rfl ?_
      refine aw_ialdE rfl mg_157 rfl (by omega) (by decide) n1 ?_
      exact aw_iret rfl rfl q
  rw [if_neg e1] at q
  by_cases e2 : x = nI 2
  · subst e2
    rw [if_pos rfl] at q
    refine aw rfl rfl ?_
    refine aw_ts (z := 2) (tgt := 75) rfl (by decide) (by decide) ?_
    refine aw rfl rfl ?_
    refine aw_getf rfl mg_121 rfl ?_
    refine aw rfl rfl ?_
    refine aw_ialdE rfl mg_157 rfl (by omega) (by decide) n2 ?_
    exact aw_iret rfl rfl q
  rw [if_neg e2] at q
  by_cases e3 : x = nI 3
  · subst e3
    rw [if_pos rfl] at q
    refine aw rfl rfl ?_
    refine aw_ts (z := 3) (tgt := 75) rfl (by decide) (by decide) ?_
    refine aw rfl rfl ?_
    refine aw_getf rfl mg_121 rfl ?_
    refine aw rfl rfl ?_
    refine aw_ialdE rfl mg_157 rfl (by omega) (by decide) n3 ?_
    exact aw_iret rfl rfl q
  rw [if_neg e3] at q
  by_cases e4 : x = nI 4
  · subst e4
    rw [if_pos rfl] at q
    refine aw rfl rfl ?_
    refine aw_ts (z := 4) (tgt := 75) rfl (by decide) (by decide) ?_
    refine aw rfl rfl ?_
    refine aw_getf rfl mg_121 rfl ?_
    refine aw rfl rfl ?_
    refine aw_ialdE rfl mg_157 rfl (by omega) (by decide) n4 ?_
    exact aw_iret rfl rfl q
  rw [if_neg e4] at q
  by_cases e5 : x = nI 5
  · subst e5
    rw [if_pos rfl] at q
    refine aw rfl rfl ?_
    refine aw_ts (z := 5) (tgt := 75) rfl (by decide) (by decide) ?_
    refine aw rfl rfl ?_
    refine aw_getf rfl mg_121 rfl ?_
    refine aw rfl rfl ?_
    refine aw_ialdE rfl mg_157 rfl (by omega) (by decide) n5 ?_
    exact aw_iret rfl rfl q
  rw [if_neg e5] at q
  by_cases e6 : x = nI 6
  · subst e6
    rw [if_pos rfl] at q
    refine aw rfl rfl ?_
    refine aw_ts (z := 6) (tgt := 75) rfl (by decide) (by decide) ?_
    refine aw rfl rfl ?_
    refine aw_getf rfl mg_121 rfl ?_
    refine aw rfl rfl ?_
    refine aw_ialdE rfl mg_157 rfl (by omega) (by decide) n6 ?_
    exact aw_iret rfl rfl q
  rw [if_neg e6] at q
  by_cases e7 : x = nI 7
  · subst e7
    rw [if_pos rfl] at q
    by_cases e6 : S 6 = 2
    · rw [if_pos e6] at n7
      refine aw rfl rfl ?_
      refine aw_ts (z := 7) (tgt := 82) rfl (by decide) (by decide) ?_
      refine aw rfl rfl ?_
      refine aw_getf rfl mg_121 rfl ?_
      refine aw_c (v := nI 7) rfl (by decide) ?_
      refine aw_ialdE rfl mg_157 rfl (by omega) (by decide) n7 ?_
      refine aw_c (v := nI 1) rfl (by decide) ?_
      refine aw_ine rfl (fun c => absurd (by decide) c) (fun _ => ?_)
      refine aw_c (v := nI 2) rfl (by decide) ?_
      refine aw rfl rfl ?_
      exact aw_iret rfl rfl (by rw [e6] at q; exact q)
    · rw [if_neg e6] at n7
      refine aw rfl rfl ?_
      refine aw_ts (z := 7) (tgt := 82) rfl (by decide) (by decide) ?_
      refine aw rfl rfl ?_
      refine aw_getf rfl mg_121 rfl ?_
      refine aw_c (v := nI 7) rfl (by decide) ?_
      refine aw_ialdE rfl mg_157 rfl (by omega) (by decide) n7 ?_
      refine aw_c (v := nI 1) rfl (by decide) ?_
      refine aw_ine rfl (fun _ => ?_) (fun c => absurd c (by decide))
      refine aw rfl rfl ?_
      refine aw rfl rfl ?_
      refine aw_cv (d1 := 1) (L1 := 23) rfl rfl mg_121 rfl rfl (by decide) (by decide) (Nat.le_of_ble_eq_true rfl) (c_X11_stateNow hM0 hG0 hN0 hS0 (fun z => absurd z e6) (fun z => ?_))
      refine aw_cv (d1 := 2) (L1 := 43) rfl rfl mg_121 rfl rfl (by decide) (by decide) (Nat.le_of_ble_eq_true rfl) (c_X11_isHome m1 m0 (by omega) (by omega) (fun _ y => ?_) (fun y => ?_) (by omega))
      · refine aw_eq rfl (fun c => absurd c (by decide)) (fun _ => ?_)
        refine aw_c (v := nI 1) rfl (by decide) ?_
        refine aw rfl rfl ?_
        exact aw_iret rfl rfl (by rcases s6 with z | z | z; omega; rw [z.2] at q; exact q; exact absurd (esq.symm.trans y) (of_decide_eq_false z.1))
      · refine aw_eq rfl (fun _ => ?_) (fun c => absurd (by decide) c)
        refine aw_c (v := nI 0) rfl (by decide) ?_
        exact aw_iret rfl rfl (by rcases s6 with z | z | z; omega; exact absurd (esq.trans (of_decide_eq_true z.1)) (y hl96); rw [z.2] at q; exact q)
  rw [if_neg e7] at q
  by_cases e8 : x = nI 8
  · subst e8
    rw [if_pos rfl] at q
    refine aw rfl rfl ?_
    refine aw_ts (z := 8) (tgt := 75) rfl (by decide) (by decide) ?_
    refine aw rfl rfl ?_
    refine aw_getf rfl mg_121 rfl ?_
    refine aw rfl rfl ?_
    refine aw_ialdE rfl mg_157 rfl (by omega) (by decide) n8 ?_
    exact aw_iret rfl rfl q
  rw [if_neg e8] at q
  have hx : x.toInt < 0 ∨ (8 : Int) < x.toInt := x_out (n := 8) (by decide) (fun j hj => by
    match j, hj with
    | 0, _ => exact e0
    | 1, _ => exact e1
    | 2, _ => exact e2
    | 3, _ => exact e3
    | 4, _ => exact e4
    | 5, _ => exact e5
    | 6, _ => exact e6
    | 7, _ => exact e7
    | 8, _ => exact e8)
  refine aw rfl rfl ?_
  refine aw_ts (tgt := 114) rfl rfl (am_tg_out hx) ?_
  refine aw_c (v := -1) rfl (by decide) ?_
  exact aw_iret rfl rfl q
def pl_in (T : Sd) (x y : Int32) (f : Nat → Nat → Int32) : Int32 := if (nI 0 ≤ x ∧ x < nI (T.1 0)) ∧ nI 0 ≤ y ∧ y < nI (T.1 1) then f x.toNatClampNeg y.toNatClampNeg else -1
theorem pl_yes {T : Sd} {a e : Nat} {f : Nat → Nat → Int32} (h0 : T.1 0 ≤ 8) (h1 : T.1 1 ≤ 4) (ha : a < T.1 0) (he : e < T.1 1) : pl_in T (nI a) (nI e) f = f a e := by
  unfold pl_in
  rw [if_pos ⟨⟨nI_le (Nat.zero_le _) (by omega), nI_lt ha (by omega)⟩, nI_le (Nat.zero_le _) (by omega), nI_lt he (by omega)⟩, nI_clamp (by omega), nI_clamp (by omega)]
theorem pl_no {T : Sd} {x y : Int32} {f : Nat → Nat → Int32} (h : x < 0 ∨ nI (T.1 0) ≤ x ∨ y < 0 ∨ nI (T.1 1) ≤ y) : pl_in T x y f = -1 := by
  unfold pl_in
  rw [if_neg]
  rintro ⟨⟨h1, h2⟩, h3, h4⟩
  rcases h with z | z | z | z
  · exact absurd z (Int32.not_lt.mpr h1)
  · exact absurd h2 (Int32.not_lt.mpr z)
  · exact absurd z (Int32.not_lt.mpr h3)
  · exact absurd h4 (Int32.not_lt.mpr z)
def a_cars (T : Sd) (LW : LWt) (x y z : Int32) : Int32 := pl_in T x y fun a e => sp z 0 9999 fun t => if n_car T LW (e * 8 + a) (nI t) then nI 1 else nI 0
theorem c_X11_square {Q : Option Value → am_H → Prop} (hM : MR k lv T W) (hG : GS T) {x y : Int32} (q : Q (some (.int (pl_in T x y fun a e => T.2 0 (e * 8 + a)))) (mh g k v pl br lo c ct pr pt cm bf bt)) : AC am_P 2 44 228 [.ref 121, .int x, .int y] (mh g k v pl br lo c ct pr pt cm bf bt) Q := by
  refine AC.of (ls := [_, _, _]) rfl ?_
  have hM0 := hM
  have hG0 := hG
  obtain ⟨m0, m1, mr, mw, mf, mk, mli, mt, ms, msq, moc, mwy, msp, mlw⟩ := hM
  obtain ⟨⟨g0, g0x⟩, ⟨g1, g1x⟩, ⟨g2, g2x⟩, ⟨g3, g3x⟩, g4, ⟨g5, g5x⟩, g6, gsq, goc, gwt, gsp, gfr⟩ := hG
  refine aw rfl rfl ?_
  refine aw rfl rfl ?_
  refine aw rfl rfl ?_
  refine aw_cv (d1 := 1) (L1 := 22) rfl rfl mg_121 rfl rfl (by decide) (by decide) (Nat.le_of_ble_eq_true rfl) (c_X11_isPlace hM0 hG0 (fun a e ea ee ha he => ?_) (fun z => ?_))
  · refine aw_eq rfl (fun c => absurd c (by decide)) (fun _ => ?_)
    subst ea ee
    refine aw rfl rfl ?_
    refine aw rfl rfl ?_
    refine aw rfl rfl ?_
    refine aw_cv (d1 := 0) (L1 := 0) rfl rfl mg_121 rfl rfl (by decide) (by decide) (Nat.le_of_ble_eq_true rfl) (c_sa hM0 hG0 ha he ?_)
    refine aw rfl rfl ?_
    exact aw_iret rfl rfl (by rw [pl_yes g0x g1x ha he] at q; exact q)
  · refine aw_eq rfl (fun _ => ?_) (fun c => absurd (by decide) c)
    refine aw_c (v := -1) rfl (by decide) ?_
    exact aw_iret rfl rfl (by rw [pl_no z] at q; exact q)
theorem c_X11_cars {Q : Option Value → am_H → Prop} (hM : MR k lv T W) (hG : GS T) {x y z : Int32} (q : ∀ v pl br, Q (some (.int (a_cars T (lwf W) x y z))) (mh g k v pl br lo c ct pr pt cm bf bt)) : AC am_P 3 75 231 [.ref 121, .int x, .int y, .int z] (mh g k v pl br lo c ct pr pt cm bf bt) Q := by
  refine AC.of (ls := [_, _, _, _]) rfl ?_
  have hM0 := hM
  have hG0 := hG
  obtain ⟨m0, m1, mr, mw, mf, mk, mli, mt, ms, msq, moc, mwy, msp, mlw⟩ := hM
  obtain ⟨⟨g0, g0x⟩, ⟨g1, g1x⟩, ⟨g2, g2x⟩, ⟨g3, g3x⟩, g4, ⟨g5, g5x⟩, g6, gsq, goc, gwt, gsp, gfr⟩ := hG
  unfold a_cars at q
  refine aw rfl rfl ?_
  refine aw rfl rfl ?_
  refine aw rfl rfl ?_
  refine aw_cv (d1 := 1) (L1 := 22) rfl rfl mg_121 rfl rfl (by decide) (by decide) (Nat.le_of_ble_eq_true rfl) (c_X11_isPlace hM0 hG0 (fun a e ea ee ha he => ?_) (fun z => ?_))
  · refine aw_eq rfl (fun c => absurd c (by decide)) (fun _ => ?_)
    subst ea ee
    rw [pl_yes g0x g1x ha he] at q
    refine aw rfl rfl ?_
    refine aw_c (v := nI 0) rfl (by decide) ?_
    refine aw_c (v := nI 9999) rfl (by decide) ?_
    refine aw_cs (d1 := 0) (L1 := 0) rfl rfl (by decide) (by decide) (Nat.le_of_ble_eq_true rfl) (c_X11_in (fun p1 p2 => ?_) (fun p => ?_))
    · refine aw_ne rfl (fun _ => ?_) (fun c => absurd c (by decide))
      obtain ⟨t, rfl, _, ht⟩ := n_of3 p1 p2 (by decide) (by decide)
      rw [sp_in (Nat.zero_le _) ht (by decide)] at q
      refine aw rfl rfl ?_
      refine aw rfl rfl ?_
      refine aw rfl rfl ?_
      refine aw rfl rfl ?_
      refine aw_cv (d1 := 2) (L1 := 52) rfl rfl mg_121 rfl rfl (by decide) (by decide) (Nat.le_of_ble_eq_true rfl) (c_X11_isBarred hM0 hG0 ha he (fun y v pl br => ?_) (fun y v pl br => ?_))
      · refine aw_eq rfl (fun c => absurd c (by decide)) (fun _ => ?_)
        refine aw_c (v := nI 1) rfl (by decide) ?_
        refine aw rfl rfl ?_
        exact aw_iret rfl rfl (by rw [if_pos y] at q; exact q _ _ _)
      · refine aw_eq rfl (fun _ => ?_) (fun c => absurd (by decide) c)
        refine aw_c (v := nI 0) rfl (by decide) ?_
        exact aw_iret rfl rfl (by rw [if_neg y] at q; exact q _ _ _)
    · refine aw_ne rfl (fun c => absurd (by decide) c) (fun _ => ?_)
      refine aw_c (v := -1) rfl (by decide) ?_
      exact aw_iret rfl rfl (by rw [sp_out p] at q; exact q _ _ _)
  · refine aw_eq rfl (fun _ => ?_) (fun c => absurd (by decide) c)
    refine aw_c (v := -1) rfl (by decide) ?_
    exact aw_iret rfl rfl (by rw [pl_no z] at q; exact q _ _ _)
end M1
end
section
/-! ===== the reference: queries over chances ===== -/
def a_home (T : Sd) (LW : LWt) (S : Nat → Nat) (x : Int32) (b : Bool) : Int32 := sp x 0 10 fun n => nI (fr (cN T LW S n) (6 ^ n) b)
def a_sure (T : Sd) (LW : LWt) (S : Nat → Nat) (x : Int32) : Int32 := sp x 0 10 fun n => if cN T LW S n = 6 ^ n then nI 1 else nI 0
/-- the first of the likeliest things to do from there *-/
def bA (T : Sd) (LW : LWt) (S : Nat → Nat) (l n : Nat) : Int32 := bs1 (bs (fun a => va T LW (Fc T LW none (hm T) (n - 1) (S 4 * T.1 5 + T.1 5)) l (S 2) a (nI (S 4 * T.1 5))) (cnB T l) (T.1 3 + 1))
def a_best (T : Sd) (LW : LWt) (S : Nat → Nat) (x : Int32) : Int32 := sp x 1 10 fun n => if S 6 = 0 then bA T LW S (S 0 * 3 + S 1) n else -2
def kin (T : Sd) (x : Int32) (f : Nat → Int32) : Int32 := if nI 0 ≤ x ∧ x < nI (T.1 3) then f x.toNatClampNeg else -1
theorem kin_yes {T : Sd} {j : Nat} {f : Nat → Int32} (h4 : T.1 3 ≤ 4) (hj : j < T.1 3) : kin T (nI j) f = f j := by
  unfold kin
  rw [if_pos ⟨nI_le (Nat.zero_le _) (by omega), nI_lt hj (by omega)⟩, nI_clamp (by omega)]
theorem kin_no {T : Sd} {x : Int32} {f : Nat → Int32} (h : x < 0 ∨ nI (T.1 3) ≤ x) : kin T x f = -1 := by
  unfold kin
  rw [if_neg]
  rintro ⟨h1, h2⟩
  rcases h with z | z
  · exact absurd z (Int32.not_lt.mpr h1)
  · exact absurd h2 (Int32.not_lt.mpr z)
def rN (T : Sd) (LW : LWt) (S : Nat → Nat) (j n : Nat) : Nat := if S 6 = 2 then 0 else Fc T LW (some j) (hm T) n (S 4 * T.1 5) (S 0 * 3 + S 1) (S 2)
def a_rule (T : Sd) (LW : LWt) (S : Nat → Nat) (y x : Int32) (b : Bool) : Int32 := kin T y fun j => sp x 0 10 fun n => nI (fr (rN T LW S j n) (6 ^ n) b)
def fnd (P : Nat → Bool) : Nat → Nat → Int32
  | 0, _ => -2
  | m + 1, i => bif P i then nI i else fnd P m (i + 1)
def a_least (T : Sd) (LW : LWt) (S : Nat → Nat) (x : Int32) : Int32 := sp x 0 100 fun p => fnd (fun n => decide (p * 6 ^ n ≤ 100 * cN T LW S n)) 11 0
def a_plan (T : Sd) (LW : LWt) (S : Nat → Nat) (x y z : Int32) : Int32 := sp x 1 10 fun n => pl_in T y z fun a e => if T.2 0 (e * 8 + a) = nI 6 ∨ T.2 0 (e * 8 + a) = nI 4 ∨ T.2 0 (e * 8 + a) = nI 5 then -2 else bA T LW S ((e * 8 + a) * 3 + S 1) n
theorem n_l100 {c p s : Nat} (hc : c < 100000000) (hp : p ≤ 100) (hs : s < 100000000) : (lg_cmp (lN 100 * (nI c).toInt64) ((nI p).toInt64 * (nI s).toInt64) < 0) ↔ ¬ p * s ≤ 100 * c := by
  rw [nI_l (by omega), nI_l (by omega), nI_l (by omega), lN_mul, lN_mul]
  have h := lg_cmp_ge (lN (100 * c)) (lN (p * s))
  have h1 : p * s ≤ 100 * s := Nat.mul_le_mul_right _ hp
  rw [pk_lLE (by omega) (by omega)] at h
  rw [← h]
  exact ⟨fun z y => absurd z (Int32.not_lt.mpr y), fun z => Int32.not_le.mp z⟩
section M1
variable {g : am_H} {k : Mk} {v pl : Nat → Int32} {br lo : Int32} {c ct pr pt cm bf bt : Nat → Int32}
variable {lv : Nat} {T : Sd} {W : Nat → Lw}
variable {S : Nat → Nat}
theorem c_X11_home {Q : Option Value → am_H → Prop} (hM : MR k lv T W) (hG : GS T) (hN : NR T (k.2.1 53) S) (hS : SG T S) {x : Int32} {b : Bool} (q : ∀ v pl br lo c ct, Q (some (.int (a_home T (lwf W) S x b))) (mh g k v pl br lo c ct pr pt cm bf bt)) : AC am_P 9 229 253 [.ref 121, .int x, .int (bI b)] (mh g k v pl br lo c ct pr pt cm bf bt) Q := by
  refine AC.of (ls := [_, _, _]) rfl ?_
  have hM0 := hM
  have hG0 := hG
  obtain ⟨m0, m1, mr, mw, mf, mk, mli, mt, ms, msq, moc, mwy, msp, mlw⟩ := hM
  obtain ⟨⟨g0, g0x⟩, ⟨g1, g1x⟩, ⟨g2, g2x⟩, ⟨g3, g3x⟩, g4, ⟨g5, g5x⟩, g6, gsq, goc, gwt, gsp, gfr⟩ := hG
  have hN0 := hN
  have hS0 := hS
  obtain ⟨n0, n1, n2, n3, n4, n5, n6, n7, n8⟩ := hN
  obtain ⟨s0, s1, s2, s3, s4, s5, s6⟩ := hS
  have hl96 := s0.1
  unfold a_home at q
  refine aw rfl rfl ?_
  refine aw_cs (d1 := 1) (L1 := 22) rfl rfl (by decide) (by decide) (Nat.le_of_ble_eq_true rfl) (c_X11_isLong (fun n hn e => ?_) (fun p => ?_))
  · refine aw_ne rfl (fun _ => ?_) (fun c => absurd c (by decide))
    subst e
    rw [sp_in (Nat.zero_le _) hn (by decide)] at q
    have h6 := p6_le hn
    have hF : ∀ l w, Fc T (lwf W) none (hm T) n (S 4 * T.1 5) l w ≤ 6 ^ n := Fc_le (r := none) hG0 (fun j z => nomatch z) _ _
    have hFx := hF (S 0 * 3 + S 1) (S 2)
    have h6p := p6_pos n
    refine aw rfl rfl ?_
    refine aw rfl rfl ?_
    refine aw_cv (d1 := 8) (L1 := 208) rfl rfl mg_121 rfl rfl (by decide) (by decide) (Nat.le_of_ble_eq_true rfl) (c_X11_fills hM0 hG0 hn (by have := Nat.mul_le_mul s3 g5x; omega) n5 (fun v pl br lo c ct hc => ?_))
    refine aw rfl rfl ?_
    refine aw_getf rfl mg_121 rfl ?_
    refine aw rfl rfl ?_
    refine aw_cv (d1 := 1) (L1 := 23) rfl rfl mg_121 rfl rfl (by decide) (by decide) (Nat.le_of_ble_eq_true rfl) (c_X11_stateNow hM0 hG0 hN0 hS0 (fun z => ?_) (fun z => ?_))
    · try rw [cN, if_pos z] at q
      try rw [cN, if_neg z] at q
      refine aw_ialdE rfl mg_159 rfl (by omega) (by decide) hc.2 ?_
      refine aw rfl rfl ?_
      refine aw_cs (d1 := 0) (L1 := 0) rfl rfl (by decide) (by decide) (Nat.le_of_ble_eq_true rfl) (c_sixes (by omega) ?_)
      refine aw rfl rfl ?_
      refine aw_cs (d1 := 1) (L1 := 24) rfl rfl (by decide) (by decide) (Nat.le_of_ble_eq_true rfl) (c_X11_lineOf (by omega) h6p (by omega) ?_)
      exact aw_iret rfl rfl (q _ _ _ _ _ _)
    · try rw [cN, if_pos z] at q
      try rw [cN, if_neg z] at q
      refine aw_ialdE rfl mg_159 rfl (by omega) (by decide) (hc.1 _ _ s0 (by omega)) ?_
      refine aw rfl rfl ?_
      refine aw_cs (d1 := 0) (L1 := 0) rfl rfl (by decide) (by decide) (Nat.le_of_ble_eq_true rfl) (c_sixes (by omega) ?_)
      refine aw rfl rfl ?_
      refine aw_cs (d1 := 1) (L1 := 24) rfl rfl (by decide) (by decide) (Nat.le_of_ble_eq_true rfl) (c_X11_lineOf (by omega) h6p (by omega) ?_)
      exact aw_iret rfl rfl (q _ _ _ _ _ _)
  · refine aw_ne rfl (fun c => absurd (by decide) c) (fun _ => ?_)
    refine aw_c (v := -1) rfl (by decide) ?_
    exact aw_iret rfl rfl (by rw [sp_out p] at q; exact q _ _ _ _ _ _)
theorem c_X11_sure {Q : Option Value → am_H → Prop} (hM : MR k lv T W) (hG : GS T) (hN : NR T (k.2.1 53) S) (hS : SG T S) {x : Int32} (q : ∀ v pl br lo c ct, Q (some (.int (a_sure T (lwf W) S x))) (mh g k v pl br lo c ct pr pt cm bf bt)) : AC am_P 9 229 265 [.ref 121, .int x] (mh g k v pl br lo c ct pr pt cm bf bt) Q := by
  refine AC.of (ls := [_, _]) rfl ?_
  have hM0 := hM
  have hG0 := hG
  obtain ⟨m0, m1, mr, mw, mf, mk, mli, mt, ms, msq, moc, mwy, msp, mlw⟩ := hM
  obtain ⟨⟨g0, g0x⟩, ⟨g1, g1x⟩, ⟨g2, g2x⟩, ⟨g3, g3x⟩, g4, ⟨g5, g5x⟩, g6, gsq, goc, gwt, gsp, gfr⟩ := hG
  have hN0 := hN
  have hS0 := hS
  obtain ⟨n0, n1, n2, n3, n4, n5, n6, n7, n8⟩ := hN
  obtain ⟨s0, s1, s2, s3, s4, s5, s6⟩ := hS
  have hl96 := s0.1
  unfold a_sure at q
  refine aw rfl rfl ?_
  refine aw_cs (d1 := 1) (L1 := 22) rfl rfl (by decide) (by decide) (Nat.le_of_ble_eq_true rfl) (c_X11_isLong (fun n hn e => ?_) (fun p => ?_))
  · refine aw_ne rfl (fun _ => ?_) (fun c => absurd c (by decide))
    subst e
    rw [sp_in (Nat.zero_le _) hn (by decide)] at q
    have h6 := p6_le hn
    have hF : ∀ l w, Fc T (lwf W) none (hm T) n (S 4 * T.1 5) l w ≤ 6 ^ n := Fc_le (r := none) hG0 (fun j z => nomatch z) _ _
    have hFx := hF (S 0 * 3 + S 1) (S 2)
    have h6p := p6_pos n
    refine aw rfl rfl ?_
    refine aw rfl rfl ?_
    refine aw_cv (d1 := 8) (L1 := 208) rfl rfl mg_121 rfl rfl (by decide) (by decide) (Nat.le_of_ble_eq_true rfl) (c_X11_fills hM0 hG0 hn (by have := Nat.mul_le_mul s3 g5x; omega) n5 (fun v pl br lo c ct hc => ?_))
    refine aw rfl rfl ?_
    refine aw_getf rfl mg_121 rfl ?_
    refine aw rfl rfl ?_
    refine aw_cv (d1 := 1) (L1 := 23) rfl rfl mg_121 rfl rfl (by decide) (by decide) (Nat.le_of_ble_eq_true rfl) (c_X11_stateNow hM0 hG0 hN0 hS0 (fun z => ?_) (fun z => ?_))
    · try rw [cN, if_pos z] at q
      try rw [cN, if_neg z] at q
      refine aw_ialdE rfl mg_159 rfl (by omega) (by decide) hc.2 ?_
      refine aw rfl rfl ?_
      refine aw_cs (d1 := 0) (L1 := 0) rfl rfl (by decide) (by decide) (Nat.le_of_ble_eq_true rfl) (c_sixes (by omega) ?_)
      refine aw_inen rfl (fun c27 => ?_) (fun c27 => ?_)
      · refine aw_c (v := nI 0) rfl (by decide) ?_
        exact aw_iret rfl rfl (by rw [if_neg c27] at q; exact q _ _ _ _ _ _)
      · refine aw_c (v := nI 1) rfl (by decide) ?_
        refine aw rfl rfl ?_
        exact aw_iret rfl rfl (by rw [if_pos c27] at q; exact q _ _ _ _ _ _)
    · try rw [cN, if_pos z] at q
      try rw [cN, if_neg z] at q
      refine aw_ialdE rfl mg_159 rfl (by omega) (by decide) (hc.1 _ _ s0 (by omega)) ?_
      refine aw rfl rfl ?_
      refine aw_cs (d1 := 0) (L1 := 0) rfl rfl (by decide) (by decide) (Nat.le_of_ble_eq_true rfl) (c_sixes (by omega) ?_)
      refine aw_inen rfl (fun c27 => ?_) (fun c27 => ?_)
      · refine aw_c (v := nI 0) rfl (by decide) ?_
        exact aw_iret rfl rfl (by rw [if_neg c27] at q; exact q _ _ _ _ _ _)
      · refine aw_c (v := nI 1) rfl (by decide) ?_
        refine aw rfl rfl ?_
        exact aw_iret rfl rfl (by rw [if_pos c27] at q; exact q _ _ _ _ _ _)
  · refine aw_ne rfl (fun c => absurd (by decide) c) (fun _ => ?_)
    refine aw_c (v := -1) rfl (by decide) ?_
    exact aw_iret rfl rfl (by rw [sp_out p] at q; exact q _ _ _ _ _ _)
theorem c_X11_best {Q : Option Value → am_H → Prop} (hM : MR k lv T W) (hG : GS T) (hN : NR T (k.2.1 53) S) (hS : SG T S) {x : Int32} (q : ∀ v pl br lo c ct, Q (some (.int (a_best T (lwf W) S x))) (mh g k v pl br lo c ct pr pt cm bf bt)) : AC am_P 8 208 264 [.ref 121, .int x] (mh g k v pl br lo c ct pr pt cm bf bt) Q := by
  refine AC.of (ls := [_, _]) rfl ?_
  have hM0 := hM
  have hG0 := hG
  obtain ⟨m0, m1, mr, mw, mf, mk, mli, mt, ms, msq, moc, mwy, msp, mlw⟩ := hM
  obtain ⟨⟨g0, g0x⟩, ⟨g1, g1x⟩, ⟨g2, g2x⟩, ⟨g3, g3x⟩, g4, ⟨g5, g5x⟩, g6, gsq, goc, gwt, gsp, gfr⟩ := hG
  have hN0 := hN
  have hS0 := hS
  obtain ⟨n0, n1, n2, n3, n4, n5, n6, n7, n8⟩ := hN
  obtain ⟨s0, s1, s2, s3, s4, s5, s6⟩ := hS
  have hl96 := s0.1
  unfold a_best at q
  refine aw rfl rfl ?_
  refine aw_c (v := nI 1) rfl (by decide) ?_
  refine aw_c (v := nI 10) rfl (by decide) ?_
  refine aw_cs (d1 := 0) (L1 := 0) rfl rfl (by decide) (by decide) (Nat.le_of_ble_eq_true rfl) (c_X11_in (fun p1 p2 => ?_) (fun p => ?_))
  · refine aw_ne rfl (fun _ => ?_) (fun c => absurd c (by decide))
    obtain ⟨n, rfl, hn1, hn⟩ := n_of3 p1 p2 (by decide) (by decide)
    rw [sp_in hn1 hn (by decide)] at q
    refine aw rfl rfl ?_
    refine aw_cv (d1 := 3) (L1 := 64) rfl rfl mg_121 rfl rfl (by decide) (by decide) (Nat.le_of_ble_eq_true rfl) (c_X11_isOver hM0 hG0 hN0 hS0 (fun z => ?_) (fun z => ?_))
    · refine aw_eq rfl (fun c => absurd c (by decide)) (fun _ => ?_)
      refine aw_c (v := -2) rfl (by decide) ?_
      exact aw_iret rfl rfl (by rw [if_neg z] at q; exact q _ _ _ _ _ _)
    · refine aw_eq rfl (fun _ => ?_) (fun c => absurd (by decide) c)
      refine aw rfl rfl ?_
      refine aw rfl rfl ?_
      refine aw_c (v := nI 1) rfl (by decide) ?_
      refine aw_c (v := -1) rfl (by decide) ?_
      refine aw rfl rfl ?_
      refine aw_getf rfl mg_121 rfl ?_
      refine aw_c (v := nI 5) rfl (by decide) ?_
      refine aw_ialdE rfl mg_157 rfl (by omega) (by decide) n5 ?_
      refine aw_cv (d1 := 7) (L1 := 183) rfl rfl mg_121 rfl rfl (by decide) (by decide) (Nat.le_of_ble_eq_true rfl) (c_X11_fillsFrom (r := none) (d := 1) hM0 hG0 (fun j z => nomatch z) hn (by omega) (by have := Nat.mul_le_mul s3 g5x; omega) (fun v pl br lo c ct hc => ?_))
      rw [Nat.one_mul] at hc
      have hFB : ∀ l w, Fc T (lwf W) none (hm T) (n - 1) (S 4 * T.1 5 + 1 * T.1 5) l w < 300000000 := fun l w => Nat.lt_of_le_of_lt (Fc_le (r := none) hG0 (fun j z => nomatch z) _ _ l w) (Nat.lt_trans (p6_le (by omega)) (by decide))
      rw [Nat.one_mul] at hFB
      refine aw rfl rfl ?_
      refine aw rfl rfl ?_
      refine aw_cv (d1 := 1) (L1 := 23) rfl rfl mg_121 rfl rfl (by decide) (by decide) (Nat.le_of_ble_eq_true rfl) (c_X11_stateNow hM0 hG0 hN0 hS0 (fun y => absurd y (by omega)) (fun _ => ?_))
      refine aw rfl rfl ?_
      refine aw_getf rfl mg_121 rfl ?_
      refine aw_c (v := nI 5) rfl (by decide) ?_
      refine aw_ialdE rfl mg_157 rfl (by omega) (by decide) n5 ?_
      refine aw_cv (d1 := 5) (L1 := 132) rfl rfl mg_121 rfl rfl (by decide) (by decide) (Nat.le_of_ble_eq_true rfl) (c_X11_bestOf hM0 hG0 hc hFB s0 (by omega) (fun v pl br lo => ?_))
      exact aw_iret rfl rfl (by rw [if_pos z] at q; exact q _ _ _ _ _ _)
  · refine aw_ne rfl (fun c => absurd (by decide) c) (fun _ => ?_)
    refine aw_c (v := -1) rfl (by decide) ?_
    exact aw_iret rfl rfl (by rw [sp_out p] at q; exact q _ _ _ _ _ _)
theorem c_X11_isRule {Q : Option Value → am_H → Prop} (hM : MR k lv T W) (hG : GS T) {x y : Int32} (q1 : ∀ j n : Nat, x = nI j → j < T.1 3 → y = nI n → n ≤ 10 → Q (some (.int (nI 1))) (mh g k v pl br lo c ct pr pt cm bf bt)) (q0 : (∀ f : Nat → Nat → Int32, (kin T x fun j => sp y 0 10 fun n => f j n) = -1) → Q (some (.int (nI 0))) (mh g k v pl br lo c ct pr pt cm bf bt)) : AC am_P 2 42 268 [.ref 121, .int x, .int y] (mh g k v pl br lo c ct pr pt cm bf bt) Q := by
  refine AC.of (ls := [_, _, _]) rfl ?_
  have hM0 := hM
  have hG0 := hG
  obtain ⟨m0, m1, mr, mw, mf, mk, mli, mt, ms, msq, moc, mwy, msp, mlw⟩ := hM
  obtain ⟨⟨g0, g0x⟩, ⟨g1, g1x⟩, ⟨g2, g2x⟩, ⟨g3, g3x⟩, g4, ⟨g5, g5x⟩, g6, gsq, goc, gwt, gsp, gfr⟩ := hG
  refine aw rfl rfl ?_
  refine aw_c (v := nI 0) rfl (by decide) ?_
  refine aw rfl rfl ?_
  refine aw_getf rfl mg_121 rfl ?_
  refine aw rfl rfl ?_
  refine aw_getfE rfl mg_121 rfl (congrArg Value.int m1) ?_
  refine aw_ialdE rfl mg_134 rfl (by omega) (by decide) mk ?_
  refine aw_c (v := nI 1) rfl (by decide) ?_
  refine aw_subn rfl (by omega) ?_
  refine aw_cs (d1 := 0) (L1 := 0) rfl rfl (by decide) (by decide) (Nat.le_of_ble_eq_true rfl) (c_X11_in (fun p1 p2 => ?_) (fun p => ?_))
  · refine aw_eq rfl (fun c => absurd c (by decide)) (fun _ => ?_)
    obtain ⟨j, rfl, _, hj⟩ := n_of3 p1 p2 (by omega) (by decide)
    refine aw rfl rfl ?_
    refine aw_cs (d1 := 1) (L1 := 22) rfl rfl (by decide) (by decide) (Nat.le_of_ble_eq_true rfl) (c_X11_isLong (fun n hn e => ?_) (fun p => ?_))
    · refine aw_eq rfl (fun c => absurd c (by decide)) (fun _ => ?_)
      refine aw_c (v := nI 1) rfl (by decide) ?_
      refine aw rfl rfl ?_
      exact aw_iret rfl rfl (q1 j n rfl (by omega) e hn)
    · refine aw_eq rfl (fun _ => ?_) (fun c => absurd (by decide) c)
      refine aw_c (v := nI 0) rfl (by decide) ?_
      exact aw_iret rfl rfl (q0 (fun f => by rw [kin_yes (by omega) (by omega), sp_out p]))
  · refine aw_eq rfl (fun _ => ?_) (fun c => absurd (by decide) c)
    refine aw_c (v := nI 0) rfl (by decide) ?_
    exact aw_iret rfl rfl (q0 (fun f => kin_no (n_out (by omega) (by omega) p)))
theorem c_X11_rule {Q : Option Value → am_H → Prop} (hM : MR k lv T W) (hG : GS T) (hN : NR T (k.2.1 53) S) (hS : SG T S) {y x : Int32} {b : Bool} (q : ∀ v pl br lo c ct, Q (some (.int (a_rule T (lwf W) S y x b))) (mh g k v pl br lo c ct pr pt cm bf bt)) : AC am_P 8 208 267 [.ref 121, .int y, .int x, .int (bI b)] (mh g k v pl br lo c ct pr pt cm bf bt) Q := by
  refine AC.of (ls := [_, _, _, _]) rfl ?_
  have hM0 := hM
  have hG0 := hG
  obtain ⟨m0, m1, mr, mw, mf, mk, mli, mt, ms, msq, moc, mwy, msp, mlw⟩ := hM
  obtain ⟨⟨g0, g0x⟩, ⟨g1, g1x⟩, ⟨g2, g2x⟩, ⟨g3, g3x⟩, g4, ⟨g5, g5x⟩, g6, gsq, goc, gwt, gsp, gfr⟩ := hG
  have hN0 := hN
  have hS0 := hS
  obtain ⟨n0, n1, n2, n3, n4, n5, n6, n7, n8⟩ := hN
  obtain ⟨s0, s1, s2, s3, s4, s5, s6⟩ := hS
  have hl96 := s0.1
  unfold a_rule at q
  refine aw rfl rfl ?_
  refine aw rfl rfl ?_
  refine aw rfl rfl ?_
  refine aw_cv (d1 := 2) (L1 := 42) rfl rfl mg_121 rfl rfl (by decide) (by decide) (Nat.le_of_ble_eq_true rfl) (c_X11_isRule hM0 hG0 (fun j n ej hj en hn => ?_) (fun p => ?_))
  · refine aw_ne rfl (fun _ => ?_) (fun c => absurd c (by decide))
    subst ej en
    rw [kin_yes g3x hj, sp_in (Nat.zero_le _) hn (by decide)] at q
    have h6 := p6_le hn
    have hr : ∀ i, some j = some i → i < T.1 3 := fun i z => by cases z; exact hj
    have hFx := Fc_le (LW := lwf W) (gl := hm T) hG0 hr n (S 4 * T.1 5) (S 0 * 3 + S 1) (S 2)
    have h6p := p6_pos n
    refine aw rfl rfl ?_
    refine aw rfl rfl ?_
    refine aw_c (v := nI 0) rfl (by decide) ?_
    refine aw rfl rfl ?_
    refine aw rfl rfl ?_
    refine aw_getf rfl mg_121 rfl ?_
    refine aw_c (v := nI 5) rfl (by decide) ?_
    refine aw_ialdE rfl mg_157 rfl (by omega) (by decide) n5 ?_
    refine aw_cv (d1 := 7) (L1 := 183) rfl rfl mg_121 rfl rfl (by decide) (by decide) (Nat.le_of_ble_eq_true rfl) (c_X11_fillsFrom (r := some j) (d := 0) hM0 hG0 hr hn (Nat.zero_le _) (by have := Nat.mul_le_mul s3 g5x; omega) (fun v pl br lo c ct hc => ?_))
    rw [show S 4 * T.1 5 + 0 * T.1 5 = S 4 * T.1 5 by omega, Nat.sub_zero] at hc
    refine aw rfl rfl ?_
    refine aw_getf rfl mg_121 rfl ?_
    refine aw rfl rfl ?_
    refine aw_cv (d1 := 1) (L1 := 23) rfl rfl mg_121 rfl rfl (by decide) (by decide) (Nat.le_of_ble_eq_true rfl) (c_X11_stateNow hM0 hG0 hN0 hS0 (fun z => ?_) (fun z => ?_))
    · try rw [rN, if_pos z] at q
      try rw [rN, if_neg z] at q
      refine aw_ialdE rfl mg_159 rfl (by omega) (by decide) hc.2 ?_
      refine aw rfl rfl ?_
      refine aw_cs (d1 := 0) (L1 := 0) rfl rfl (by decide) (by decide) (Nat.le_of_ble_eq_true rfl) (c_sixes (by omega) ?_)
      refine aw rfl rfl ?_
      refine aw_cs (d1 := 1) (L1 := 24) rfl rfl (by decide) (by decide) (Nat.le_of_ble_eq_true rfl) (c_X11_lineOf (by omega) h6p (by omega) ?_)
      exact aw_iret rfl rfl (q _ _ _ _ _ _)
    · try rw [rN, if_pos z] at q
      try rw [rN, if_neg z] at q
      refine aw_ialdE rfl mg_159 rfl (by omega) (by decide) (hc.1 _ _ s0 (by omega)) ?_
      refine aw rfl rfl ?_
      refine aw_cs (d1 := 0) (L1 := 0) rfl rfl (by decide) (by decide) (Nat.le_of_ble_eq_true rfl) (c_sixes (by omega) ?_)
      refine aw rfl rfl ?_
      refine aw_cs (d1 := 1) (L1 := 24) rfl rfl (by decide) (by decide) (Nat.le_of_ble_eq_true rfl) (c_X11_lineOf (by omega) h6p (by omega) ?_)
      exact aw_iret rfl rfl (q _ _ _ _ _ _)
  · refine aw_ne rfl (fun c => absurd (by decide) c) (fun _ => ?_)
    refine aw_c (v := -1) rfl (by decide) ?_
    exact aw_iret rfl rfl (by rw [p] at q; exact q _ _ _ _ _ _)
theorem c_X11_least {Q : Option Value → am_H → Prop} (hM : MR k lv T W) (hG : GS T) (hN : NR T (k.2.1 53) S) (hS : SG T S) {x : Int32} (q : ∀ v pl br lo c ct, Q (some (.int (a_least T (lwf W) S x))) (mh g k v pl br lo c ct pr pt cm bf bt)) : AC am_P 9 229 266 [.ref 121, .int x] (mh g k v pl br lo c ct pr pt cm bf bt) Q := by
  refine AC.of (ls := [_, _, _, _, _]) rfl ?_
  have hM0 := hM
  have hG0 := hG
  obtain ⟨m0, m1, mr, mw, mf, mk, mli, mt, ms, msq, moc, mwy, msp, mlw⟩ := hM
  obtain ⟨⟨g0, g0x⟩, ⟨g1, g1x⟩, ⟨g2, g2x⟩, ⟨g3, g3x⟩, g4, ⟨g5, g5x⟩, g6, gsq, goc, gwt, gsp, gfr⟩ := hG
  have hN0 := hN
  have hS0 := hS
  obtain ⟨n0, n1, n2, n3, n4, n5, n6, n7, n8⟩ := hN
  obtain ⟨s0, s1, s2, s3, s4, s5, s6⟩ := hS
  have hl96 := s0.1
  unfold a_least at q
  refine aw rfl rfl ?_
  refine aw_c (v := nI 0) rfl (by decide) ?_
  refine aw_c (v := nI 100) rfl (by decide) ?_
  refine aw_cs (d1 := 0) (L1 := 0) rfl rfl (by decide) (by decide) (Nat.le_of_ble_eq_true rfl) (c_X11_in (fun p1 p2 => ?_) (fun p => ?_))
  · refine aw_ne rfl (fun _ => ?_) (fun c => absurd c (by decide))
    obtain ⟨p, rfl, _, hp⟩ := n_of3 p1 p2 (by decide) (by decide)
    rw [sp_in (Nat.zero_le _) hp (by decide)] at q
    refine aw_c (v := nI 0) rfl (by decide) ?_
    refine aw_ist (ls' := [_, _, _, _, _]) rfl rfl ?_
    have key : ∀ m i v pl br lo c ct (l3 l4 : Option Value), i + m = 11 → (∀ v pl br lo c ct, Q (some (.int (fnd (fun n => decide (p * 6 ^ n ≤ 100 * cN T (lwf W) S n)) m i))) (mh g k v pl br lo c ct pr pt cm bf bt)) → AW am_P 9 229 266 14 [some (.ref 121), some (.int (nI p)), some (.int (nI i)), l3, l4] [] (mh g k v pl br lo c ct pr pt cm bf bt) Q := by
      intro m
      induction m with
      | zero =>
        intro i v pl br lo c ct l3 l4 hi q
        refine aw rfl rfl ?_
        refine aw_c (v := nI 10) rfl (by decide) ?_
        refine aw_igtn rfl (fun c17 => ?_) (fun c17 => by omega)
        refine aw_c (v := -2) rfl (by decide) ?_
        exact aw_iret rfl rfl (q _ _ _ _ _ _)
      | succ m ih =>
        intro i v pl br lo c ct l3 l4 hi q
        have hn : i ≤ 10 := by omega
        rw [fnd] at q
        have h6 := p6_le hn
        have hF : ∀ l w, Fc T (lwf W) none (hm T) i (S 4 * T.1 5) l w ≤ 6 ^ i := Fc_le (r := none) hG0 (fun j z => nomatch z) _ _
        have hFx := hF (S 0 * 3 + S 1) (S 2)
        have h6p := p6_pos i
        refine aw rfl rfl ?_
        refine aw_c (v := nI 10) rfl (by decide) ?_
        refine aw_igtn rfl (fun c17 => by omega) (fun c17 => ?_)
        refine aw rfl rfl ?_
        refine aw rfl rfl ?_
        refine aw_cv (d1 := 8) (L1 := 208) rfl rfl mg_121 rfl rfl (by decide) (by decide) (Nat.le_of_ble_eq_true rfl) (c_X11_fills hM0 hG0 hn (by have := Nat.mul_le_mul s3 g5x; omega) n5 (fun v pl br lo c ct hc => ?_))
        refine aw rfl rfl ?_
        refine aw rfl rfl ?_
        refine aw_getf rfl mg_121 rfl ?_
        refine aw rfl rfl ?_
        refine aw_cv (d1 := 1) (L1 := 23) rfl rfl mg_121 rfl rfl (by decide) (by decide) (Nat.le_of_ble_eq_true rfl) (c_X11_stateNow hM0 hG0 hN0 hS0 (fun z => ?_) (fun z => ?_))
        · try rw [cN, if_pos z] at q
          try rw [cN, if_neg z] at q
          refine aw_ialdE rfl mg_159 rfl (by omega) (by decide) hc.2 ?_
          refine aw rfl rfl ?_
          refine aw rfl rfl ?_
          refine aw_lst (ls' := [_, _, _, _, _]) rfl rfl ?_
          refine aw rfl rfl ?_
          refine aw rfl rfl ?_
          refine aw rfl rfl ?_
          refine aw rfl rfl ?_
          refine aw_cs (d1 := 0) (L1 := 0) rfl rfl (by decide) (by decide) (Nat.le_of_ble_eq_true rfl) (c_sixes (by omega) ?_)
          refine aw rfl rfl ?_
          refine aw rfl rfl ?_
          refine aw rfl rfl ?_
          refine aw_lt rfl (fun c50 => ?_) (fun c50 => ?_)
          · refine aw_incn (c := 1) (ls' := [_, _, _, _, _]) rfl rfl (by decide) rfl ?_
            refine aw rfl rfl ?_
            exact ih (i + 1) _ _ _ _ _ _ _ _ (by omega) (by rw [decide_eq_false ((n_l100 (by omega) hp (by omega)).mp c50)] at q; exact q)
          · refine aw rfl rfl ?_
            exact aw_iret rfl rfl (by rw [decide_eq_true (Decidable.of_not_not (fun y => c50 ((n_l100 (by omega) hp (by omega)).mpr y)))] at q; exact q _ _ _ _ _ _)
        · try rw [cN, if_pos z] at q
          try rw [cN, if_neg z] at q
          refine aw_ialdE rfl mg_159 rfl (by omega) (by decide) (hc.1 _ _ s0 (by omega)) ?_
          refine aw rfl rfl ?_
          refine aw rfl rfl ?_
          refine aw_lst (ls' := [_, _, _, _, _]) rfl rfl ?_
          refine aw rfl rfl ?_
          refine aw rfl rfl ?_
          refine aw rfl rfl ?_
          refine aw rfl rfl ?_
          refine aw_cs (d1 := 0) (L1 := 0) rfl rfl (by decide) (by decide) (Nat.le_of_ble_eq_true rfl) (c_sixes (by omega) ?_)
          refine aw rfl rfl ?_
          refine aw rfl rfl ?_
          refine aw rfl rfl ?_
          refine aw_lt rfl (fun c50 => ?_) (fun c50 => ?_)
          · refine aw_incn (c := 1) (ls' := [_, _, _, _, _]) rfl rfl (by decide) rfl ?_
            refine aw rfl rfl ?_
            exact ih (i + 1) _ _ _ _ _ _ _ _ (by omega) (by rw [decide_eq_false ((n_l100 (by omega) hp (by omega)).mp c50)] at q; exact q)
          · refine aw rfl rfl ?_
            exact aw_iret rfl rfl (by rw [decide_eq_true (Decidable.of_not_not (fun y => c50 ((n_l100 (by omega) hp (by omega)).mpr y)))] at q; exact q _ _ _ _ _ _)
    exact key 11 0 v pl br lo c ct _ _ rfl q
  · refine aw_ne rfl (fun c => absurd (by decide) c) (fun _ => ?_)
    refine aw_c (v := -1) rfl (by decide) ?_
    exact aw_iret rfl rfl (by rw [sp_out p] at q; exact q _ _ _ _ _ _)
def cb (cn : Nat → Bool) : Nat → Int32
  | 0 => nI 0
  | n + 1 => bif cn n then cb cn n ||| (nI 1 <<< (nI n &&& 31)) else cb cn n
def a_can (T : Sd) (S : Nat → Nat) : Int32 := if S 6 = 0 then cb (mck T (S 0 * 3 + S 1)) (T.1 3) else nI 0
theorem c_X11_can {Q : Option Value → am_H → Prop} (hM : MR k lv T W) (hG : GS T) (hN : NR T (k.2.1 53) S) (hS : SG T S) (q : Q (some (.int (a_can T S))) (mh g k v pl br lo c ct pr pt cm bf bt)) : AC am_P 4 84 252 [.ref 121] (mh g k v pl br lo c ct pr pt cm bf bt) Q := by
  refine AC.of (ls := [_, _, _]) rfl ?_
  unfold a_can at q
  have hM0 := hM
  have hG0 := hG
  obtain ⟨m0, m1, mr, mw, mf, mk, mli, mt, ms, msq, moc, mwy, msp, mlw⟩ := hM
  obtain ⟨⟨g0, g0x⟩, ⟨g1, g1x⟩, ⟨g2, g2x⟩, ⟨g3, g3x⟩, g4, ⟨g5, g5x⟩, g6, gsq, goc, gwt, gsp, gfr⟩ := hG
  have hN0 := hN
  have hS0 := hS
  obtain ⟨n0, n1, n2, n3, n4, n5, n6, n7, n8⟩ := hN
  obtain ⟨s0, s1, s2, s3, s4, s5, s6⟩ := hS
  have hl96 := s0.1
  by_cases e6 : S 6 = 0
  · rw [if_pos e6] at q
    refine aw_c (v := nI 0) rfl (by decide) ?_
    refine aw_ist (ls' := [_, _, _]) rfl rfl ?_
    refine aw_c (v := nI 0) rfl (by decide) ?_
    refine aw_ist (ls' := [_, _, _]) rfl rfl ?_
    refine aw_loop (α := Unit) (ll := fun i _ => [some (.ref 121), some (.int (cb (mck T (S 0 * 3 + S 1)) i)), some (.int (nI i))]) (hh := fun _ _ => (mh g k v pl br lo c ct pr pt cm bf bt)) (I := fun _ _ => True) (N := T.1 3) (fun i y hi _ ih => ?_) (fun y _ => ?_) 0 () (Nat.zero_le _) trivial
    · skip
      refine aw rfl rfl ?_
      refine aw rfl rfl ?_
      refine aw_getf rfl mg_121 rfl ?_
      refine aw rfl rfl ?_
      refine aw_getfE rfl mg_121 rfl (congrArg Value.int m1) ?_
      refine aw_ialdE rfl mg_134 rfl (by omega) (by decide) mk ?_
      refine aw_igen rfl (fun c14 => by omega) (fun c14 => ?_)
      refine aw rfl rfl ?_
      refine aw_cv (d1 := 3) (L1 := 64) rfl rfl mg_121 rfl rfl (by decide) (by decide) (Nat.le_of_ble_eq_true rfl) (c_X11_isOver hM0 hG0 hN0 hS0 (fun z => absurd e6 z) (fun _ => ?_))
      · refine aw_ne rfl (fun c => absurd (by decide) c) (fun _ => ?_)
        refine aw rfl rfl ?_
        refine aw rfl rfl ?_
        refine aw_cv (d1 := 1) (L1 := 23) rfl rfl mg_121 rfl rfl (by decide) (by decide) (Nat.le_of_ble_eq_true rfl) (c_X11_stateNow hM0 hG0 hN0 hS0 (fun y => absurd y (by omega)) (fun _ => ?_))
        refine aw rfl rfl ?_
        refine aw_cv (d1 := 2) (L1 := 43) rfl rfl mg_121 rfl rfl (by decide) (by decide) (Nat.le_of_ble_eq_true rfl) (c_X11_canKick hM0 hG0 s0 (by omega) hi (fun z => ?_) (fun z => ?_))
        · refine aw_eq rfl (fun c => absurd c (by decide)) (fun _ => ?_)
          refine aw rfl rfl ?_
          refine aw_c (v := nI 1) rfl (by decide) ?_
          refine aw rfl rfl ?_
          refine aw rfl rfl ?_
          refine aw rfl rfl ?_
          refine aw_ist (ls' := [_, _, _]) rfl rfl ?_
          refine aw_incn (c := 1) (ls' := [_, _, _]) rfl rfl (by decide) rfl ?_
          refine aw rfl rfl ?_
          have e := mck_iff.mpr z
          have e2 : cb (mck T (S 0 * 3 + S 1)) (i + 1) = cb (mck T (S 0 * 3 + S 1)) i ||| (nI 1 <<< (nI i &&& 31)) := by rw [cb, e]; rfl
          have ih := ih () trivial
          rw [e2] at ih
          exact ih
        · refine aw_eq rfl (fun _ => ?_) (fun c => absurd (by decide) c)
          refine aw_incn (c := 1) (ls' := [_, _, _]) rfl rfl (by decide) rfl ?_
          refine aw rfl rfl ?_
          have e : mck T (S 0 * 3 + S 1) i = false := Bool.eq_false_iff.mpr (fun y => z (mck_iff.mp y))
          have e2 : cb (mck T (S 0 * 3 + S 1)) (i + 1) = cb (mck T (S 0 * 3 + S 1)) i := by rw [cb, e]; rfl
          have ih := ih () trivial
          rw [e2] at ih
          exact ih
    · skip
      refine aw rfl rfl ?_
      refine aw rfl rfl ?_
      refine aw_getf rfl mg_121 rfl ?_
      refine aw rfl rfl ?_
      refine aw_getfE rfl mg_121 rfl (congrArg Value.int m1) ?_
      refine aw_ialdE rfl mg_134 rfl (by omega) (by decide) mk ?_
      refine aw_igen rfl (fun c14 => ?_) (fun c14 => by omega)
      refine aw rfl rfl ?_
      exact aw_iret rfl rfl q
  · rw [if_neg e6] at q
    refine aw_c (v := nI 0) rfl (by decide) ?_
    refine aw_ist (ls' := [_, _, _]) rfl rfl ?_
    refine aw_c (v := nI 0) rfl (by decide) ?_
    refine aw_ist (ls' := [_, _, _]) rfl rfl ?_
    refine aw rfl rfl ?_
    refine aw rfl rfl ?_
    refine aw_getf rfl mg_121 rfl ?_
    refine aw rfl rfl ?_
    refine aw_getfE rfl mg_121 rfl (congrArg Value.int m1) ?_
    refine aw_ialdE rfl mg_134 rfl (by omega) (by decide) mk ?_
    refine aw_igen rfl (fun c14 => by omega) (fun c14 => ?_)
    refine aw rfl rfl ?_
    refine aw_cv (d1 := 3) (L1 := 64) rfl rfl mg_121 rfl rfl (by decide) (by decide) (Nat.le_of_ble_eq_true rfl) (c_X11_isOver hM0 hG0 hN0 hS0 (fun _ => ?_) (fun z => absurd z e6))
    · refine aw_ne rfl (fun _ => ?_) (fun c => absurd c (by decide))
      refine aw rfl rfl ?_
      exact aw_iret rfl rfl q
theorem c_X11_plan {Q : Option Value → am_H → Prop} (hM : MR k lv T W) (hG : GS T) (hN : NR T (k.2.1 53) S) (hS : SG T S) {x y z : Int32} (q : ∀ v pl br lo c ct, Q (some (.int (a_plan T (lwf W) S x y z))) (mh g k v pl br lo c ct pr pt cm bf bt)) : AC am_P 8 208 276 [.ref 121, .int x, .int y, .int z] (mh g k v pl br lo c ct pr pt cm bf bt) Q := by
  refine AC.of (ls := [_, _, _, _, _]) rfl ?_
  have hM0 := hM
  have hG0 := hG
  obtain ⟨m0, m1, mr, mw, mf, mk, mli, mt, ms, msq, moc, mwy, msp, mlw⟩ := hM
  obtain ⟨⟨g0, g0x⟩, ⟨g1, g1x⟩, ⟨g2, g2x⟩, ⟨g3, g3x⟩, g4, ⟨g5, g5x⟩, g6, gsq, goc, gwt, gsp, gfr⟩ := hG
  have hN0 := hN
  have hS0 := hS
  obtain ⟨n0, n1, n2, n3, n4, n5, n6, n7, n8⟩ := hN
  obtain ⟨s0, s1, s2, s3, s4, s5, s6⟩ := hS
  have hl96 := s0.1
  unfold a_plan at q
  refine aw rfl rfl ?_
  refine aw_c (v := nI 1) rfl (by decide) ?_
  refine aw_c (v := nI 10) rfl (by decide) ?_
  refine aw_cs (d1 := 0) (L1 := 0) rfl rfl (by decide) (by decide) (Nat.le_of_ble_eq_true rfl) (c_X11_in (fun p1 p2 => ?_) (fun p => ?_))
  · refine aw_eq rfl (fun c => absurd c (by decide)) (fun _ => ?_)
    obtain ⟨n, rfl, hn1, hn⟩ := n_of3 p1 p2 (by decide) (by decide)
    rw [sp_in hn1 hn (by decide)] at q
    refine aw rfl rfl ?_
    refine aw rfl rfl ?_
    refine aw rfl rfl ?_
    refine aw_cv (d1 := 1) (L1 := 22) rfl rfl mg_121 rfl rfl (by decide) (by decide) (Nat.le_of_ble_eq_true rfl) (c_X11_isPlace hM0 hG0 (fun a e ea ee ha he => ?_) (fun z => ?_))
    · refine aw_ne rfl (fun _ => ?_) (fun c => absurd c (by decide))
      subst ea ee
      rw [pl_yes g0x g1x ha he] at q
      refine aw rfl rfl ?_
      refine aw rfl rfl ?_
      refine aw rfl rfl ?_
      refine aw_cv (d1 := 0) (L1 := 0) rfl rfl mg_121 rfl rfl (by decide) (by decide) (Nat.le_of_ble_eq_true rfl) (c_sa hM0 hG0 ha he ?_)
      refine aw_ist (ls' := [_, _, _, _, _]) rfl rfl ?_
      refine aw rfl rfl ?_
      refine aw_c (v := nI 6) rfl (by decide) ?_
      refine aw_ieq rfl (fun c33 => ?_) (fun c33 => ?_)
      · refine aw_c (v := -2) rfl (by decide) ?_
        exact aw_iret rfl rfl (by rw [if_pos (Or.inl c33)] at q; exact q _ _ _ _ _ _)
      · refine aw rfl rfl ?_
        refine aw_c (v := nI 4) rfl (by decide) ?_
        refine aw_ieq rfl (fun c39 => ?_) (fun c39 => ?_)
        · refine aw_c (v := -2) rfl (by decide) ?_
          exact aw_iret rfl rfl (by rw [if_pos (Or.inr (Or.inl c39))] at q; exact q _ _ _ _ _ _)
        · refine aw rfl rfl ?_
          refine aw_c (v := nI 5) rfl (by decide) ?_
          refine aw_ine rfl (fun c45 => ?_) (fun c45 => ?_)
          · rw [if_neg (fun y => y.elim c33 (fun y => y.elim c39 c45))] at q
            refine aw rfl rfl ?_
            refine aw rfl rfl ?_
            refine aw_c (v := nI 1) rfl (by decide) ?_
            refine aw_c (v := -1) rfl (by decide) ?_
            refine aw rfl rfl ?_
            refine aw_getf rfl mg_121 rfl ?_
            refine aw_c (v := nI 5) rfl (by decide) ?_
            refine aw_ialdE rfl mg_157 rfl (by omega) (by decide) n5 ?_
            refine aw_cv (d1 := 7) (L1 := 183) rfl rfl mg_121 rfl rfl (by decide) (by decide) (Nat.le_of_ble_eq_true rfl) (c_X11_fillsFrom (r := none) (d := 1) hM0 hG0 (fun j z => nomatch z) hn (by omega) (by have := Nat.mul_le_mul s3 g5x; omega) (fun v pl br lo c ct hc => ?_))
            rw [Nat.one_mul] at hc
            have hFB : ∀ l w, Fc T (lwf W) none (hm T) (n - 1) (S 4 * T.1 5 + 1 * T.1 5) l w < 300000000 := fun l w => Nat.lt_of_le_of_lt (Fc_le (r := none) hG0 (fun j z => nomatch z) _ _ l w) (Nat.lt_trans (p6_le (by omega)) (by decide))
            rw [Nat.one_mul] at hFB
            have h12 : S 1 < T.1 2 := by have := s0.2.2.2.1; omega
            have hlie : lieOK T ((e * 8 + a) * 3 + S 1) := lie_on ha he h12 g0x g1x g2x c39 c45
            refine aw rfl rfl ?_
            refine aw rfl rfl ?_
            refine aw rfl rfl ?_
            refine aw rfl rfl ?_
            refine aw_getf rfl mg_121 rfl ?_
            refine aw_c (v := nI 2) rfl (by decide) ?_
            refine aw_ialdE rfl mg_157 rfl (by omega) (by decide) n2 ?_
            refine aw rfl rfl ?_
            refine aw_getf rfl mg_121 rfl ?_
            refine aw_c (v := nI 3) rfl (by decide) ?_
            refine aw_ialdE rfl mg_157 rfl (by omega) (by decide) n3 ?_
            refine aw_cs (d1 := 0) (L1 := 0) rfl rfl (by decide) (by decide) (Nat.le_of_ble_eq_true rfl) (c_X11_numberOf ?_)
            rw [show ((8 * e + a) * 3 + S 1) * 4 + S 2 = 4 * ((e * 8 + a) * 3 + S 1) + S 2 by omega]
            refine aw rfl rfl ?_
            refine aw_getf rfl mg_121 rfl ?_
            refine aw_c (v := nI 5) rfl (by decide) ?_
            refine aw_ialdE rfl mg_157 rfl (by omega) (by decide) n5 ?_
            refine aw_cv (d1 := 5) (L1 := 132) rfl rfl mg_121 rfl rfl (by decide) (by decide) (Nat.le_of_ble_eq_true rfl) (c_X11_bestOf (l := (e * 8 + a) * 3 + S 1) (w := S 2) hM0 hG0 hc hFB hlie (by omega) (fun v pl br lo => ?_))
            exact aw_iret rfl rfl (q _ _ _ _ _ _)
          · refine aw_c (v := -2) rfl (by decide) ?_
            exact aw_iret rfl rfl (by rw [if_pos (Or.inr (Or.inr c45))] at q; exact q _ _ _ _ _ _)
    · refine aw_ne rfl (fun c => absurd (by decide) c) (fun _ => ?_)
      refine aw_c (v := -1) rfl (by decide) ?_
      exact aw_iret rfl rfl (by rw [pl_no z] at q; exact q _ _ _ _ _ _)
  · refine aw_eq rfl (fun _ => ?_) (fun c => absurd (by decide) c)
    refine aw_c (v := -1) rfl (by decide) ?_
    exact aw_iret rfl rfl (by rw [sp_out p] at q; exact q _ _ _ _ _ _)
end M1
end
section
/-! ===== the reference: touches, faces, sides ===== -/
def tcK (T : Sd) (s : Nat) : Option Nat := if T.2 0 s = nI 4 ∨ T.2 0 s = nI 5 then none else some s
/-- the square to which a touch lays it -/
def tcS (T : Sd) (s way : Nat) : Option Nat := if way = 0 then (if s % 8 + 1 < T.1 0 then tcK T (s + 1) else none) else if way = 1 then (if 1 ≤ s % 8 then tcK T (s - 1) else none) else if way = 2 then (if s / 8 + 1 < T.1 1 then tcK T (s + 8) else none) else if way = 3 then (if 1 ≤ s / 8 then tcK T (s - 8) else none) else none
theorem tcK_some {T : Sd} {s u : Nat} (h : tcK T s = some u) : u = s ∧ ¬ T.2 0 s = nI 4 ∧ ¬ T.2 0 s = nI 5 := by
  unfold tcK at h
  by_cases h1 : T.2 0 s = nI 4 ∨ T.2 0 s = nI 5
  · rw [if_pos h1] at h; cases h
  · rw [if_neg h1] at h; cases h; exact ⟨rfl, fun z => h1 (Or.inl z), fun z => h1 (Or.inr z)⟩
theorem tcS_lie {T : Sd} {s way u f : Nat} (hG : GS T) (ha : s % 8 < T.1 0) (he : s / 8 < T.1 1) (hf : f < T.1 2) (h : tcS T s way = some u) : lieOK T (u * 3 + f) := by
  obtain ⟨⟨g0, g0x⟩, ⟨g1, g1x⟩, ⟨g2, g2x⟩, ⟨g3, g3x⟩, g4, ⟨g5, g5x⟩, g6, gsq, goc, gwt, gsp, gfr⟩ := hG
  unfold tcS at h
  have fin : ∀ z, tcK T z = some u → z % 8 < T.1 0 → z / 8 < T.1 1 → lieOK T (u * 3 + f) := fun z h1 h2 h3 => by
    obtain ⟨rfl, h4, h5⟩ := tcK_some h1
    have e : u / 8 * 8 + u % 8 = u := by omega
    have := lie_on h2 h3 hf g0x g1x g2x (by rw [e]; exact h4) (by rw [e]; exact h5)
    rw [e] at this
    exact this
  by_cases w0 : way = 0
  · rw [if_pos w0] at h
    by_cases h1 : s % 8 + 1 < T.1 0
    · rw [if_pos h1] at h; exact fin _ h (by omega) (by omega)
    · rw [if_neg h1] at h; cases h
  · rw [if_neg w0] at h
    by_cases w1 : way = 1
    · rw [if_pos w1] at h
      by_cases h1 : 1 ≤ s % 8
      · rw [if_pos h1] at h; exact fin _ h (by omega) (by omega)
      · rw [if_neg h1] at h; cases h
    · rw [if_neg w1] at h
      by_cases w2 : way = 2
      · rw [if_pos w2] at h
        by_cases h1 : s / 8 + 1 < T.1 1
        · rw [if_pos h1] at h; exact fin _ h (by omega) (by omega)
        · rw [if_neg h1] at h; cases h
      · rw [if_neg w2] at h
        by_cases w3 : way = 3
        · rw [if_pos w3] at h
          by_cases h1 : 1 ≤ s / 8
          · rw [if_pos h1] at h; exact fin _ h (by omega) (by omega)
          · rw [if_neg h1] at h; cases h
        · rw [if_neg w3] at h; cases h
theorem lie_face {T : Sd} {s f t : Nat} (hl : lieOK T (s * 3 + f)) (hf : f < 3) (ht : t < T.1 2) (h3 : T.1 2 ≤ 3) : lieOK T (s * 3 + t) := by
  have h := lie_wall hl ht h3
  rw [show (s * 3 + f) / 3 = s by omega] at h
  exact h
/-- the likeliest of where it lies and where a touch lays it -/
def tm (T : Sd) (F : Nat → Nat → Nat) (l w : Nat) : Nat → Nat
  | 0 => F l w
  | i + 1 => match tcS T (l / 3) i with
    | none => tm T F l w i
    | some u => if tm T F l w i < F (u * 3 + l % 3) w then F (u * 3 + l % 3) w else tm T F l w i
theorem tm_ge {T : Sd} {F : Nat → Nat → Nat} {l w : Nat} : ∀ i, F l w ≤ tm T F l w i := by
  intro i
  induction i with
  | zero => exact Nat.le_refl _
  | succ i ih =>
    rw [tm]
    cases tcS T (l / 3) i with
    | none => exact ih
    | some u =>
      show _ ≤ if _ < _ then _ else _
      split
      · omega
      · exact ih
theorem tm_le {T : Sd} {F : Nat → Nat → Nat} {l w N : Nat} (h : ∀ l w, F l w ≤ N) : ∀ i, tm T F l w i ≤ N := by
  intro i
  induction i with
  | zero => exact h _ _
  | succ i ih =>
    rw [tm]
    cases tcS T (l / 3) i with
    | none => exact ih
    | some u =>
      show (if _ < _ then _ else _) ≤ _
      split
      · exact h _ _
      · exact ih
theorem bs_max (f : Nat → Nat) (cn : Nat → Bool) : ∀ n p, bs f cn n = some p → ∀ i, i < n → cn i = true → f i ≤ p.2 := by
  intro n
  induction n with
  | zero => intro p h; cases h
  | succ n ih =>
    intro p h i hi hc
    cases e : bs f cn n with
    | none =>
      rw [bs_none e] at h
      by_cases e1 : i = n
      · subst e1; rw [hc] at h; cases h; exact Nat.le_refl _
      · exfalso
        have : ∀ m, m ≤ n → ∀ j, j < m → cn j = true → bs f cn m ≠ none := by
          intro m
          induction m with
          | zero => intro _ j hj; omega
          | succ m ihm =>
            intro hm j hj hcj hn
            cases e3 : bs f cn m with
            | none =>
              rw [bs_none e3] at hn
              by_cases e4 : j = m
              · subst e4; rw [hcj] at hn; cases hn
              · exact ihm (by omega) j (by omega) hcj e3
            | some q =>
              rw [bs_more e3] at hn
              cases e5 : (cn m && decide (q.2 < f m)) <;> rw [e5] at hn <;> cases hn
        exact this n (Nat.le_refl _) i (by omega) hc e
    | some q =>
      rw [bs_more e] at h
      cases e2 : (cn n && decide (q.2 < f n)) with
      | true =>
        rw [e2] at h
        cases h
        have hq : q.2 < f n := by
          by_cases h5 : q.2 < f n
          · exact h5
          · rw [decide_eq_false h5, Bool.and_false] at e2; cases e2
        by_cases e1 : i = n
        · subst e1; exact Nat.le_refl _
        · have := ih q e i (by omega) hc
          show f i ≤ f n
          omega
      | false =>
        rw [e2] at h
        cases h
        by_cases e1 : i = n
        · subst e1
          rw [hc, Bool.true_and] at e2
          exact Nat.not_lt.mp (of_decide_eq_false e2)
        · exact ih _ e i (by omega) hc
theorem va_bs {T : Sd} {LW : LWt} {F : Nat → Nat → Nat} {l w : Nat} {x : Int32} {a : Nat} (ha : a ≤ T.1 3) (hc : cnB T l a = true) : va T LW F l w a x ≤ va T LW F l w (act T LW F none l w x) x := by
  obtain ⟨p, hp⟩ := bs_some (T := T) (l := l) (f := fun a => va T LW F l w a x)
  have h1 := bs_max _ _ _ _ hp a (by omega) hc
  have h2 := bs_lt _ _ _ _ hp
  have e : act T LW F none l w x = p.1 := by show bsA (bs _ _ _) = _; rw [hp]; rfl
  rw [e]
  rw [h2.2.1] at h1
  exact h1
theorem act_cn {T : Sd} {LW : LWt} {F : Nat → Nat → Nat} {l w : Nat} {x : Int32} : act T LW F none l w x ≤ T.1 3 ∧ cnB T l (act T LW F none l w x) = true := by
  obtain ⟨p, hp⟩ := bs_some (T := T) (l := l) (f := fun a => va T LW F l w a x)
  have h2 := bs_lt _ _ _ _ hp
  have e : act T LW F none l w x = p.1 := by show bsA (bs _ _ _) = _; rw [hp]; rfl
  rw [e]
  exact ⟨by omega, h2.2.2⟩
theorem sm_mono {f g : Nat → Nat} : ∀ n, (∀ i, i < n → f i ≤ g i) → sm f n ≤ sm g n := by
  intro n
  induction n with
  | zero => intro _; exact Nat.le_refl _
  | succ n ih => intro h; exact Nat.add_le_add (ih (fun i hi => h i (by omega))) (h n (by omega))
theorem va_mono {T : Sd} {LW : LWt} {F : Nat → Nat → Nat} {l w a : Nat} {x : Int32} (h : ∀ l w, F l w ≤ F l (w + 1)) : va T LW F l w a x ≤ va T LW F l (w + 1) a x := by
  have hl : ∀ way, ld T LW F l w way x ≤ ld T LW F l (w + 1) way x := fun way => by
    unfold ld
    by_cases h1 : n_land T LW l way x = -1
    · rw [if_pos h1, if_pos h1, if_neg (Nat.succ_ne_zero w)]
      by_cases h2 : w = 0
      · rw [if_pos h2]; exact Nat.zero_le _
      · rw [if_neg h2]
        have := h l (w - 1)
        rw [show w - 1 + 1 = w by omega] at this
        exact this
    · rw [if_neg h1, if_neg h1]; exact h _ _
  unfold va
  by_cases h1 : a = T.1 3
  · rw [if_pos h1, if_pos h1]; exact Nat.mul_le_mul_left _ (hl _)
  · rw [if_neg h1, if_neg h1]; exact sm_mono _ (fun i _ => Nat.mul_le_mul_left _ (hl _))
theorem Fc_mono {T : Sd} {LW : LWt} {gl : Nat → Bool} : ∀ n t l w, Fc T LW none gl n t l w ≤ Fc T LW none gl n t l (w + 1) := by
  intro n
  induction n with
  | zero => intro t l w; exact Nat.le_refl _
  | succ n ih =>
    intro t l w
    show lay T LW _ none _ l w (nI t) ≤ lay T LW _ none _ l (w + 1) (nI t)
    unfold lay
    by_cases h : hm T l = true
    · rw [if_pos h, if_pos h]; exact Nat.le_refl _
    · rw [if_neg h, if_neg h]
      have ha := act_cn (T := T) (LW := LW) (F := Fc T LW none gl n (t + T.1 5)) (l := l) (w := w) (x := nI t)
      exact Nat.le_trans (va_mono (fun l w => ih _ l w)) (va_bs ha.1 ha.2)
section M1
variable {g : am_H} {k : Mk} {v pl : Nat → Int32} {br lo : Int32} {c ct pr pt cm bf bt : Nat → Int32}
variable {lv : Nat} {T : Sd} {W : Nat → Lw}
variable {S : Nat → Nat}
theorem c_plN {Q : Option Value → am_H → Prop} (hM : MR k lv T W) (hG : GS T) {a e : Nat} (ha2 : a < 100) (he2 : e < 100) (q1 : a < T.1 0 → e < T.1 1 → Q (some (.int (nI 1))) (mh g k v pl br lo c ct pr pt cm bf bt)) (q0 : ¬ (a < T.1 0 ∧ e < T.1 1) → Q (some (.int (nI 0))) (mh g k v pl br lo c ct pr pt cm bf bt)) : AC am_P 1 22 229 [.ref 121, .int (nI a), .int (nI e)] (mh g k v pl br lo c ct pr pt cm bf bt) Q := by
  refine c_X11_isPlace hM hG (fun a' e' ea ee ha he => ?_) (fun z => ?_)
  · obtain ⟨⟨g0, g0x⟩, ⟨g1, g1x⟩, ⟨g2, g2x⟩, ⟨g3, g3x⟩, g4, ⟨g5, g5x⟩, g6, gsq, goc, gwt, gsp, gfr⟩ := hG
    have h1 := (nI_eq (by omega) (by omega)).mp ea
    have h2 := (nI_eq (by omega) (by omega)).mp ee
    subst h1 h2
    exact q1 ha he
  · obtain ⟨⟨g0, g0x⟩, ⟨g1, g1x⟩, ⟨g2, g2x⟩, ⟨g3, g3x⟩, g4, ⟨g5, g5x⟩, g6, gsq, goc, gwt, gsp, gfr⟩ := hG
    refine q0 (fun y => ?_)
    rcases z with z | z | z | z
    · exact nI_pos (by omega) z
    · exact nI_ge y.1 (by omega) z
    · exact nI_pos (by omega) z
    · exact nI_ge y.2 (by omega) z
theorem c_plX {Q : Option Value → am_H → Prop} (hM : MR k lv T W) (hG : GS T) {x y : Int32} (h : x < 0 ∨ y < 0) (q0 : Q (some (.int (nI 0))) (mh g k v pl br lo c ct pr pt cm bf bt)) : AC am_P 1 22 229 [.ref 121, .int x, .int y] (mh g k v pl br lo c ct pr pt cm bf bt) Q := by
  refine c_X11_isPlace hM hG (fun a' e' ea ee ha he => ?_) (fun z => q0)
  obtain ⟨⟨g0, g0x⟩, ⟨g1, g1x⟩, ⟨g2, g2x⟩, ⟨g3, g3x⟩, g4, ⟨g5, g5x⟩, g6, gsq, goc, gwt, gsp, gfr⟩ := hG
  subst ea ee
  rcases h with h | h
  · exact absurd h (nI_pos (by omega))
  · exact absurd h (nI_pos (by omega))
theorem n_dec {a : Nat} (h : 1 ≤ a) : nI a + -1 = nI (a - 1) := by
  rw [show a = a - 1 + 1 by omega, ← nI_add, Int32.add_assoc, show nI 1 + (-1 : Int32) = 0 by decide, Int32.add_zero, Nat.add_sub_cancel]
theorem c_X11_touched {Q : Option Value → am_H → Prop} (hM : MR k lv T W) (hG : GS T) {l w y : Nat} (hl : lieOK T l) (hw : w < 4) (hy : y < 4) (q1 : ∀ u, tcS T (l / 3) y = some u → Q (some (.int (nI (4 * (u * 3 + l % 3) + w)))) (mh g k v pl br lo c ct pr pt cm bf bt)) (q0 : tcS T (l / 3) y = none → Q (some (.int (-1))) (mh g k v pl br lo c ct pr pt cm bf bt)) : AC am_P 2 44 249 [.ref 121, .int (nI (4 * l + w)), .int (nI y)] (mh g k v pl br lo c ct pr pt cm bf bt) Q := by
  refine AC.of (ls := [_, _, _, _, _]) rfl ?_
  have hM0 := hM
  have hG0 := hG
  obtain ⟨m0, m1, mr, mw, mf, mk, mli, mt, ms, msq, moc, mwy, msp, mlw⟩ := hM
  obtain ⟨⟨g0, g0x⟩, ⟨g1, g1x⟩, ⟨g2, g2x⟩, ⟨g3, g3x⟩, g4, ⟨g5, g5x⟩, g6, gsq, goc, gwt, gsp, gfr⟩ := hG
  have hl96 := hl.1
  have hla := hl.2.1
  have hle := hl.2.2.1
  have ew : (4 * l + w) % 4 = w := by omega
  unfold tcS at q1 q0
  by_cases y0 : y = 0
  · subst y0
    rw [if_pos rfl] at q1 q0
    refine aw rfl rfl ?_
    refine aw_cs (d1 := 0) (L1 := 0) rfl rfl (by decide) (by decide) (Nat.le_of_ble_eq_true rfl) (c_al (by omega) (by omega) ?_)
    refine aw rfl rfl ?_
    refine aw_ne rfl (fun c => absurd (by decide) c) (fun _ => ?_)
    refine aw_c (v := nI 1) rfl (by decide) ?_
    refine aw rfl rfl ?_
    refine aw_addn rfl ?_
    refine aw_ist (ls' := [_, _, _, _, _]) rfl rfl ?_
    refine aw rfl rfl ?_
    refine aw_cs (d1 := 0) (L1 := 0) rfl rfl (by decide) (by decide) (Nat.le_of_ble_eq_true rfl) (c_ac (by omega) (by omega) ?_)
    refine aw rfl rfl ?_
    refine aw_c (v := nI 2) rfl (by decide) ?_
    refine aw_ine rfl (fun _ => ?_) (fun c => absurd c (by decide))
    refine aw rfl rfl ?_
    refine aw_c (v := nI 3) rfl (by decide) ?_
    refine aw_ine rfl (fun _ => ?_) (fun c => absurd c (by decide))
    refine aw_c (v := nI 0) rfl (by decide) ?_
    refine aw_addn rfl ?_
    refine aw_ist (ls' := [_, _, _, _, _]) rfl rfl ?_
    refine aw rfl rfl ?_
    refine aw rfl rfl ?_
    refine aw rfl rfl ?_
    refine aw_cv (d1 := 1) (L1 := 22) rfl rfl mg_121 rfl rfl (by decide) (by decide) (Nat.le_of_ble_eq_true rfl) (c_plN hM0 hG0 (by omega) (by omega) (fun ha he => ?_) (fun z => ?_))
    · refine aw_eq rfl (fun c => absurd c (by decide)) (fun _ => ?_)
      refine aw rfl rfl ?_
      refine aw rfl rfl ?_
      refine aw rfl rfl ?_
      refine aw_cv (d1 := 0) (L1 := 0) rfl rfl mg_121 rfl rfl (by decide) (by decide) (Nat.le_of_ble_eq_true rfl) (c_sa hM0 hG0 ha he ?_)
      rw [show (l / 3 / 8 + 0) * 8 + (l / 3 % 8 + 1) = l / 3 + 1 by omega]
      refine aw_c (v := nI 4) rfl (by decide) ?_
      refine aw_ieq rfl (fun c68 => ?_) (fun c68 => ?_)
      · refine aw_c (v := -1) rfl (by decide) ?_
        exact aw_iret rfl rfl (by rw [if_pos (by omega)] at q0; exact q0 (by unfold tcK; rw [if_pos (Or.inl c68)]))
      · refine aw rfl rfl ?_
        refine aw rfl rfl ?_
        refine aw rfl rfl ?_
        refine aw_cv (d1 := 0) (L1 := 0) rfl rfl mg_121 rfl rfl (by decide) (by decide) (Nat.le_of_ble_eq_true rfl) (c_sa hM0 hG0 ha he ?_)
        rw [show (l / 3 / 8 + 0) * 8 + (l / 3 % 8 + 1) = l / 3 + 1 by omega]
        refine aw_c (v := nI 5) rfl (by decide) ?_
        refine aw_ine rfl (fun c79 => ?_) (fun c79 => ?_)
        · refine aw rfl rfl ?_
          refine aw rfl rfl ?_
          refine aw rfl rfl ?_
          refine aw_cs (d1 := 0) (L1 := 0) rfl rfl (by decide) (by decide) (Nat.le_of_ble_eq_true rfl) (c_fc (by omega) (by omega) ?_)
          refine aw rfl rfl ?_
          refine aw_c (v := nI 4) rfl (by decide) ?_
          refine aw_remn rfl (by omega) (by omega) (by omega) ?_
          refine aw_cs (d1 := 0) (L1 := 0) rfl rfl (by decide) (by decide) (Nat.le_of_ble_eq_true rfl) (c_X11_numberOf ?_)
          exact aw_iret rfl rfl (by rw [if_pos (by omega)] at q1; rw [ew, show ((8 * (l / 3 / 8 + 0) + (l / 3 % 8 + 1)) * 3 + l % 3) * 4 + w = 4 * ((l / 3 + 1) * 3 + l % 3) + w by omega]; exact q1 _ (by unfold tcK; rw [if_neg (fun z => z.elim c68 c79)]))
        · refine aw_c (v := -1) rfl (by decide) ?_
          exact aw_iret rfl rfl (by rw [if_pos (by omega)] at q0; exact q0 (by unfold tcK; rw [if_pos (Or.inr c79)]))
    · refine aw_eq rfl (fun _ => ?_) (fun c => absurd (by decide) c)
      refine aw_c (v := -1) rfl (by decide) ?_
      exact aw_iret rfl rfl (by rw [if_neg (by omega)] at q0; exact q0 rfl)
  rw [if_neg y0] at q1 q0
  by_cases y1 : y = 1
  · subst y1
    rw [if_pos rfl] at q1 q0
    by_cases hneg : 1 ≤ l / 3 % 8
    · skip
      refine aw rfl rfl ?_
      refine aw_cs (d1 := 0) (L1 := 0) rfl rfl (by decide) (by decide) (Nat.le_of_ble_eq_true rfl) (c_al (by omega) (by omega) ?_)
      refine aw rfl rfl ?_
      refine aw_ne rfl (fun _ => ?_) (fun c => absurd c (by decide))
      refine aw rfl rfl ?_
      refine aw_c (v := nI 1) rfl (by decide) ?_
      refine aw_ine rfl (fun c => absurd (by decide) c) (fun _ => ?_)
      refine aw_c (v := -1) rfl (by decide) ?_
      refine aw rfl rfl ?_
      refine aw rfl rfl ?_
      rw [n_dec hneg]
      refine aw_ist (ls' := [_, _, _, _, _]) rfl rfl ?_
      refine aw rfl rfl ?_
      refine aw_cs (d1 := 0) (L1 := 0) rfl rfl (by decide) (by decide) (Nat.le_of_ble_eq_true rfl) (c_ac (by omega) (by omega) ?_)
      refine aw rfl rfl ?_
      refine aw_c (v := nI 2) rfl (by decide) ?_
      refine aw_ine rfl (fun _ => ?_) (fun c => absurd c (by decide))
      refine aw rfl rfl ?_
      refine aw_c (v := nI 3) rfl (by decide) ?_
      refine aw_ine rfl (fun _ => ?_) (fun c => absurd c (by decide))
      refine aw_c (v := nI 0) rfl (by decide) ?_
      refine aw_addn rfl ?_
      refine aw_ist (ls' := [_, _, _, _, _]) rfl rfl ?_
      refine aw rfl rfl ?_
      refine aw rfl rfl ?_
      refine aw rfl rfl ?_
      refine aw_cv (d1 := 1) (L1 := 22) rfl rfl mg_121 rfl rfl (by decide) (by decide) (Nat.le_of_ble_eq_true rfl) (c_plN hM0 hG0 (by omega) (by omega) (fun ha he => ?_) (fun z => ?_))
      · refine aw_eq rfl (fun c => absurd c (by decide)) (fun _ => ?_)
        refine aw rfl rfl ?_
        refine aw rfl rfl ?_
        refine aw rfl rfl ?_
        refine aw_cv (d1 := 0) (L1 := 0) rfl rfl mg_121 rfl rfl (by decide) (by decide) (Nat.le_of_ble_eq_true rfl) (c_sa hM0 hG0 ha he ?_)
        rw [show (l / 3 / 8 + 0) * 8 + (l / 3 % 8 - 1) = l / 3 - 1 by omega]
        refine aw_c (v := nI 4) rfl (by decide) ?_
        refine aw_ieq rfl (fun c68 => ?_) (fun c68 => ?_)
        · refine aw_c (v := -1) rfl (by decide) ?_
          exact aw_iret rfl rfl (by rw [if_pos hneg] at q0; exact q0 (by unfold tcK; rw [if_pos (Or.inl c68)]))
        · refine aw rfl rfl ?_
          refine aw rfl rfl ?_
          refine aw rfl rfl ?_
          refine aw_cv (d1 := 0) (L1 := 0) rfl rfl mg_121 rfl rfl (by decide) (by decide) (Nat.le_of_ble_eq_true rfl) (c_sa hM0 hG0 ha he ?_)
          rw [show (l / 3 / 8 + 0) * 8 + (l / 3 % 8 - 1) = l / 3 - 1 by omega]
          refine aw_c (v := nI 5) rfl (by decide) ?_
          refine aw_ine rfl (fun c79 => ?_) (fun c79 => ?_)
          · refine aw rfl rfl ?_
            refine aw rfl rfl ?_
            refine aw rfl rfl ?_
            refine aw_cs (d1 := 0) (L1 := 0) rfl rfl (by decide) (by decide) (Nat.le_of_ble_eq_true rfl) (c_fc (by omega) (by omega) ?_)
            refine aw rfl rfl ?_
            refine aw_c (v := nI 4) rfl (by decide) ?_
            refine aw_remn rfl (by omega) (by omega) (by omega) ?_
            refine aw_cs (d1 := 0) (L1 := 0) rfl rfl (by decide) (by decide) (Nat.le_of_ble_eq_true rfl) (c_X11_numberOf ?_)
            exact aw_iret rfl rfl (by rw [if_pos hneg] at q1; rw [ew, show ((8 * (l / 3 / 8 + 0) + (l / 3 % 8 - 1)) * 3 + l % 3) * 4 + w = 4 * ((l / 3 - 1) * 3 + l % 3) + w by omega]; exact q1 _ (by unfold tcK; rw [if_neg (fun z => z.elim c68 c79)]))
          · refine aw_c (v := -1) rfl (by decide) ?_
            exact aw_iret rfl rfl (by rw [if_pos hneg] at q0; exact q0 (by unfold tcK; rw [if_pos (Or.inr c79)]))
      · refine aw_eq rfl (fun _ => ?_) (fun c => absurd (by decide) c)
        refine aw_c (v := -1) rfl (by decide) ?_
        exact aw_iret rfl rfl (absurd ⟨by omega, by omega⟩ z)
    · rw [if_neg hneg] at q0
      refine aw rfl rfl ?_
      refine aw_cs (d1 := 0) (L1 := 0) rfl rfl (by decide) (by decide) (Nat.le_of_ble_eq_true rfl) (c_al (by omega) (by omega) ?_)
      refine aw rfl rfl ?_
      refine aw_ne rfl (fun _ => ?_) (fun c => absurd c (by decide))
      refine aw rfl rfl ?_
      refine aw_c (v := nI 1) rfl (by decide) ?_
      refine aw_ine rfl (fun c => absurd (by decide) c) (fun _ => ?_)
      refine aw_c (v := -1) rfl (by decide) ?_
      refine aw rfl rfl ?_
      refine aw rfl rfl ?_
      refine aw_ist (ls' := [_, _, _, _, _]) rfl rfl ?_
      refine aw rfl rfl ?_
      refine aw_cs (d1 := 0) (L1 := 0) rfl rfl (by decide) (by decide) (Nat.le_of_ble_eq_true rfl) (c_ac (by omega) (by omega) ?_)
      refine aw rfl rfl ?_
      refine aw_c (v := nI 2) rfl (by decide) ?_
      refine aw_ine rfl (fun _ => ?_) (fun c => absurd c (by decide))
      refine aw rfl rfl ?_
      refine aw_c (v := nI 3) rfl (by decide) ?_
      refine aw_ine rfl (fun _ => ?_) (fun c => absurd c (by decide))
      refine aw_c (v := nI 0) rfl (by decide) ?_
      refine aw_addn rfl ?_
      refine aw_ist (ls' := [_, _, _, _, _]) rfl rfl ?_
      refine aw rfl rfl ?_
      refine aw rfl rfl ?_
      refine aw rfl rfl ?_
      refine aw_cv (d1 := 1) (L1 := 22) rfl rfl mg_121 rfl rfl (by decide) (by decide) (Nat.le_of_ble_eq_true rfl) (c_plX hM0 hG0 (Or.inl (by rw [show l / 3 % 8 = 0 by omega]; decide)) ?_)
      · refine aw_eq rfl (fun _ => ?_) (fun c => absurd (by decide) c)
        refine aw_c (v := -1) rfl (by decide) ?_
        exact aw_iret rfl rfl (q0 rfl)
  rw [if_neg y1] at q1 q0
  by_cases y2 : y = 2
  · subst y2
    rw [if_pos rfl] at q1 q0
    refine aw rfl rfl ?_
    refine aw_cs (d1 := 0) (L1 := 0) rfl rfl (by decide) (by decide) (Nat.le_of_ble_eq_true rfl) (c_al (by omega) (by omega) ?_)
    refine aw rfl rfl ?_
    refine aw_ne rfl (fun _ => ?_) (fun c => absurd c (by decide))
    refine aw rfl rfl ?_
    refine aw_c (v := nI 1) rfl (by decide) ?_
    refine aw_ine rfl (fun _ => ?_) (fun c => absurd c (by decide))
    refine aw_c (v := nI 0) rfl (by decide) ?_
    refine aw_addn rfl ?_
    refine aw_ist (ls' := [_, _, _, _, _]) rfl rfl ?_
    refine aw rfl rfl ?_
    refine aw_cs (d1 := 0) (L1 := 0) rfl rfl (by decide) (by decide) (Nat.le_of_ble_eq_true rfl) (c_ac (by omega) (by omega) ?_)
    refine aw rfl rfl ?_
    refine aw_c (v := nI 2) rfl (by decide) ?_
    refine aw_ine rfl (fun c => absurd (by decide) c) (fun _ => ?_)
    refine aw_c (v := nI 1) rfl (by decide) ?_
    refine aw rfl rfl ?_
    refine aw_addn rfl ?_
    refine aw_ist (ls' := [_, _, _, _, _]) rfl rfl ?_
    refine aw rfl rfl ?_
    refine aw rfl rfl ?_
    refine aw rfl rfl ?_
    refine aw_cv (d1 := 1) (L1 := 22) rfl rfl mg_121 rfl rfl (by decide) (by decide) (Nat.le_of_ble_eq_true rfl) (c_plN hM0 hG0 (by omega) (by omega) (fun ha he => ?_) (fun z => ?_))
    · refine aw_eq rfl (fun c => absurd c (by decide)) (fun _ => ?_)
      refine aw rfl rfl ?_
      refine aw rfl rfl ?_
      refine aw rfl rfl ?_
      refine aw_cv (d1 := 0) (L1 := 0) rfl rfl mg_121 rfl rfl (by decide) (by decide) (Nat.le_of_ble_eq_true rfl) (c_sa hM0 hG0 ha he ?_)
      rw [show (l / 3 / 8 + 1) * 8 + (l / 3 % 8 + 0) = l / 3 + 8 by omega]
      refine aw_c (v := nI 4) rfl (by decide) ?_
      refine aw_ieq rfl (fun c68 => ?_) (fun c68 => ?_)
      · refine aw_c (v := -1) rfl (by decide) ?_
        exact aw_iret rfl rfl (by rw [if_pos (by omega)] at q0; exact q0 (by unfold tcK; rw [if_pos (Or.inl c68)]))
      · refine aw rfl rfl ?_
        refine aw rfl rfl ?_
        refine aw rfl rfl ?_
        refine aw_cv (d1 := 0) (L1 := 0) rfl rfl mg_121 rfl rfl (by decide) (by decide) (Nat.le_of_ble_eq_true rfl) (c_sa hM0 hG0 ha he ?_)
        rw [show (l / 3 / 8 + 1) * 8 + (l / 3 % 8 + 0) = l / 3 + 8 by omega]
        refine aw_c (v := nI 5) rfl (by decide) ?_
        refine aw_ine rfl (fun c79 => ?_) (fun c79 => ?_)
        · refine aw rfl rfl ?_
          refine aw rfl rfl ?_
          refine aw rfl rfl ?_
          refine aw_cs (d1 := 0) (L1 := 0) rfl rfl (by decide) (by decide) (Nat.le_of_ble_eq_true rfl) (c_fc (by omega) (by omega) ?_)
          refine aw rfl rfl ?_
          refine aw_c (v := nI 4) rfl (by decide) ?_
          refine aw_remn rfl (by omega) (by omega) (by omega) ?_
          refine aw_cs (d1 := 0) (L1 := 0) rfl rfl (by decide) (by decide) (Nat.le_of_ble_eq_true rfl) (c_X11_numberOf ?_)
          exact aw_iret rfl rfl (by rw [if_pos (by omega)] at q1; rw [ew, show ((8 * (l / 3 / 8 + 1) + (l / 3 % 8 + 0)) * 3 + l % 3) * 4 + w = 4 * ((l / 3 + 8) * 3 + l % 3) + w by omega]; exact q1 _ (by unfold tcK; rw [if_neg (fun z => z.elim c68 c79)]))
        · refine aw_c (v := -1) rfl (by decide) ?_
          exact aw_iret rfl rfl (by rw [if_pos (by omega)] at q0; exact q0 (by unfold tcK; rw [if_pos (Or.inr c79)]))
    · refine aw_eq rfl (fun _ => ?_) (fun c => absurd (by decide) c)
      refine aw_c (v := -1) rfl (by decide) ?_
      exact aw_iret rfl rfl (by rw [if_neg (by omega)] at q0; exact q0 rfl)
  rw [if_neg y2] at q1 q0
  by_cases y3 : y = 3
  · subst y3
    rw [if_pos rfl] at q1 q0
    by_cases hneg : 1 ≤ l / 3 / 8
    · skip
      refine aw rfl rfl ?_
      refine aw_cs (d1 := 0) (L1 := 0) rfl rfl (by decide) (by decide) (Nat.le_of_ble_eq_true rfl) (c_al (by omega) (by omega) ?_)
      refine aw rfl rfl ?_
      refine aw_ne rfl (fun _ => ?_) (fun c => absurd c (by decide))
      refine aw rfl rfl ?_
      refine aw_c (v := nI 1) rfl (by decide) ?_
      refine aw_ine rfl (fun _ => ?_) (fun c => absurd c (by decide))
      refine aw_c (v := nI 0) rfl (by decide) ?_
      refine aw_addn rfl ?_
      refine aw_ist (ls' := [_, _, _, _, _]) rfl rfl ?_
      refine aw rfl rfl ?_
      refine aw_cs (d1 := 0) (L1 := 0) rfl rfl (by decide) (by decide) (Nat.le_of_ble_eq_true rfl) (c_ac (by omega) (by omega) ?_)
      refine aw rfl rfl ?_
      refine aw_c (v := nI 2) rfl (by decide) ?_
      refine aw_ine rfl (fun _ => ?_) (fun c => absurd c (by decide))
      refine aw rfl rfl ?_
      refine aw_c (v := nI 3) rfl (by decide) ?_
      refine aw_ine rfl (fun c => absurd (by decide) c) (fun _ => ?_)
      refine aw_c (v := -1) rfl (by decide) ?_
      refine aw rfl rfl ?_
      refine aw rfl rfl ?_
      rw [n_dec hneg]
      refine aw_ist (ls' := [_, _, _, _, _]) rfl rfl ?_
      refine aw rfl rfl ?_
      refine aw rfl rfl ?_
      refine aw rfl rfl ?_
      refine aw_cv (d1 := 1) (L1 := 22) rfl rfl mg_121 rfl rfl (by decide) (by decide) (Nat.le_of_ble_eq_true rfl) (c_plN hM0 hG0 (by omega) (by omega) (fun ha he => ?_) (fun z => ?_))
      · refine aw_eq rfl (fun c => absurd c (by decide)) (fun _ => ?_)
        refine aw rfl rfl ?_
        refine aw rfl rfl ?_
        refine aw rfl rfl ?_
        refine aw_cv (d1 := 0) (L1 := 0) rfl rfl mg_121 rfl rfl (by decide) (by decide) (Nat.le_of_ble_eq_true rfl) (c_sa hM0 hG0 ha he ?_)
        rw [show (l / 3 / 8 - 1) * 8 + (l / 3 % 8 + 0) = l / 3 - 8 by omega]
        refine aw_c (v := nI 4) rfl (by decide) ?_
        refine aw_ieq rfl (fun c68 => ?_) (fun c68 => ?_)
        · refine aw_c (v := -1) rfl (by decide) ?_
          exact aw_iret rfl rfl (by rw [if_pos hneg] at q0; exact q0 (by unfold tcK; rw [if_pos (Or.inl c68)]))
        · refine aw rfl rfl ?_
          refine aw rfl rfl ?_
          refine aw rfl rfl ?_
          refine aw_cv (d1 := 0) (L1 := 0) rfl rfl mg_121 rfl rfl (by decide) (by decide) (Nat.le_of_ble_eq_true rfl) (c_sa hM0 hG0 ha he ?_)
          rw [show (l / 3 / 8 - 1) * 8 + (l / 3 % 8 + 0) = l / 3 - 8 by omega]
          refine aw_c (v := nI 5) rfl (by decide) ?_
          refine aw_ine rfl (fun c79 => ?_) (fun c79 => ?_)
          · refine aw rfl rfl ?_
            refine aw rfl rfl ?_
            refine aw rfl rfl ?_
            refine aw_cs (d1 := 0) (L1 := 0) rfl rfl (by decide) (by decide) (Nat.le_of_ble_eq_true rfl) (c_fc (by omega) (by omega) ?_)
            refine aw rfl rfl ?_
            refine aw_c (v := nI 4) rfl (by decide) ?_
            refine aw_remn rfl (by omega) (by omega) (by omega) ?_
            refine aw_cs (d1 := 0) (L1 := 0) rfl rfl (by decide) (by decide) (Nat.le_of_ble_eq_true rfl) (c_X11_numberOf ?_)
            exact aw_iret rfl rfl (by rw [if_pos hneg] at q1; rw [ew, show ((8 * (l / 3 / 8 - 1) + (l / 3 % 8 + 0)) * 3 + l % 3) * 4 + w = 4 * ((l / 3 - 8) * 3 + l % 3) + w by omega]; exact q1 _ (by unfold tcK; rw [if_neg (fun z => z.elim c68 c79)]))
          · refine aw_c (v := -1) rfl (by decide) ?_
            exact aw_iret rfl rfl (by rw [if_pos hneg] at q0; exact q0 (by unfold tcK; rw [if_pos (Or.inr c79)]))
      · refine aw_eq rfl (fun _ => ?_) (fun c => absurd (by decide) c)
        refine aw_c (v := -1) rfl (by decide) ?_
        exact aw_iret rfl rfl (absurd ⟨by omega, by omega⟩ z)
    · rw [if_neg hneg] at q0
      refine aw rfl rfl ?_
      refine aw_cs (d1 := 0) (L1 := 0) rfl rfl (by decide) (by decide) (Nat.le_of_ble_eq_true rfl) (c_al (by omega) (by omega) ?_)
      refine aw rfl rfl ?_
      refine aw_ne rfl (fun _ => ?_) (fun c => absurd c (by decide))
      refine aw rfl rfl ?_
      refine aw_c (v := nI 1) rfl (by decide) ?_
      refine aw_ine rfl (fun _ => ?_) (fun c => absurd c (by decide))
      refine aw_c (v := nI 0) rfl (by decide) ?_
      refine aw_addn rfl ?_
      refine aw_ist (ls' := [_, _, _, _, _]) rfl rfl ?_
      refine aw rfl rfl ?_
      refine aw_cs (d1 := 0) (L1 := 0) rfl rfl (by decide) (by decide) (Nat.le_of_ble_eq_true rfl) (c_ac (by omega) (by omega) ?_)
      refine aw rfl rfl ?_
      refine aw_c (v := nI 2) rfl (by decide) ?_
      refine aw_ine rfl (fun _ => ?_) (fun c => absurd c (by decide))
      refine aw rfl rfl ?_
      refine aw_c (v := nI 3) rfl (by decide) ?_
      refine aw_ine rfl (fun c => absurd (by decide) c) (fun _ => ?_)
      refine aw_c (v := -1) rfl (by decide) ?_
      refine aw rfl rfl ?_
      refine aw rfl rfl ?_
      refine aw_ist (ls' := [_, _, _, _, _]) rfl rfl ?_
      refine aw rfl rfl ?_
      refine aw rfl rfl ?_
      refine aw rfl rfl ?_
      refine aw_cv (d1 := 1) (L1 := 22) rfl rfl mg_121 rfl rfl (by decide) (by decide) (Nat.le_of_ble_eq_true rfl) (c_plX hM0 hG0 (Or.inr (by rw [show l / 3 / 8 = 0 by omega]; decide)) ?_)
      · refine aw_eq rfl (fun _ => ?_) (fun c => absurd (by decide) c)
        refine aw_c (v := -1) rfl (by decide) ?_
        exact aw_iret rfl rfl (q0 rfl)
  rw [if_neg y3] at q1 q0
  omega
end M1
end
section
/-! ===== the reference: worth, face, side, goBy, trap ===== -/
def a_worth (T : Sd) (LW : LWt) (S : Nat → Nat) (x : Int32) (bl b : Bool) : Int32 := sp x 0 10 fun n => if S 6 = 0 then nI (fr ((bif bl then Fc T LW none (hm T) n (S 4 * T.1 5) (S 0 * 3 + S 1) (S 2 + 1) else tm T (Fc T LW none (hm T) n (S 4 * T.1 5)) (S 0 * 3 + S 1) (S 2) 4) - Fc T LW none (hm T) n (S 4 * T.1 5) (S 0 * 3 + S 1) (S 2)) (6 ^ n) b) else nI (fr 0 1 b)
def tt : Nat → Bool := fun _ => true
def a_face (T : Sd) (LW : LWt) (S : Nat → Nat) (x : Int32) : Int32 := sp x 0 10 fun n => if S 6 = 0 then nI (bsA (bs (fun f => Fc T LW none (hm T) n (S 4 * T.1 5) (S 0 * 3 + f) (S 2)) tt (T.1 2))) else -2
def sdc (T : Sd) (a : Nat) : Nat → Bool := fun e => !(decide (T.2 0 (e * 8 + a) = nI 4)) && !(decide (T.2 0 (e * 8 + a) = nI 5))
def sdf (F : Nat → Nat → Nat) (a f w : Nat) : Nat → Nat := fun e => F ((e * 8 + a) * 3 + f) w
def bs3 : Option (Nat × Nat) → Int32
  | none => -2
  | some p => nI p.1
def a_side (T : Sd) (LW : LWt) (S : Nat → Nat) (x : Int32) : Int32 := sp x 0 10 fun n => if S 6 = 0 then bs3 (bs (sdf (Fc T LW none (hm T) n (S 4 * T.1 5)) (S 0 % 8) (S 1) (S 2)) (sdc T (S 0 % 8)) (T.1 1)) else -2
/-- lives behind so many waits; none: lost -/
def wl1 (b : Bool) : Option Nat → Option Nat
  | none => none
  | some u => bif b then (if u = 0 then none else some (u - 1)) else some u
def wl (T : Sd) (LW : LWt) (l t w : Nat) : Nat → Option Nat
  | 0 => some w
  | i + 1 => wl1 (decide (n_land T LW l 24 (nI (t + i * T.1 5)) = -1)) (wl T LW l t w i)
def wlS (l : Nat) : Option Nat → Nat
  | none => 384
  | some u => 4 * l + u
def wlF (F : Nat → Nat) : Option Nat → Nat
  | none => 0
  | some u => F u
def gbF (T : Sd) (LW : LWt) (n l t w : Nat) : Nat → Nat := fun i => wlF (Fc T LW none (hm T) n (t + i * T.1 5) l) (wl T LW l t w i)
def a_goBy (T : Sd) (LW : LWt) (S : Nat → Nat) (x : Int32) : Int32 := sp x 0 10 fun n => if S 6 = 0 then nI (bsA (bs (gbF T LW n (S 0 * 3 + S 1) (S 4 * T.1 5) (S 2)) tt 6)) else -2
def lkB (T : Sd) (s : Nat) : Bool := decide (s % 8 < T.1 0) && decide (s / 8 < T.1 1) && !(decide (T.2 0 s = nI 4)) && !(decide (T.2 0 s = nI 5))
def allz (f : Nat → Nat) : Nat → Bool
  | 0 => true
  | n + 1 => allz f n && decide (f n = 0)
def ctN (P : Nat → Bool) : Nat → Nat
  | 0 => 0
  | n + 1 => ctN P n + bif P n then 1 else 0
def trp (T : Sd) (F : Nat → Nat → Nat) (w : Nat) : Nat → Bool := fun s => lkB T s && allz (fun f => F (s * 3 + f) w) (T.1 2)
def a_trap (T : Sd) (LW : LWt) (S : Nat → Nat) (x : Int32) : Int32 := sp x 0 10 fun n => nI (ctN (trp T (Fc T LW none (hm T) n (S 4 * T.1 5)) (S 2)) 32)
theorem bs_no {f : Nat → Nat} {cn : Nat → Bool} {i : Nat} (hb : ∀ j, f j < 2147483648) (hc : cn i = true) (h : nI (f i) ≤ bs2 (bs f cn i)) : bs f cn (i + 1) = bs f cn i := by
  cases e : bs f cn i with
  | none => rw [e] at h; exact absurd (Int32.lt_of_lt_of_le (by decide : (-1 : Int32) < nI 0) (nI_le (Nat.zero_le _) (hb i))) (Int32.not_lt.mpr h)
  | some p =>
    have h2 := bs_lt _ _ _ _ e
    rw [e] at h
    have h3 : f i ≤ p.2 := (nI_leI (hb i) (by rw [h2.2.1]; exact hb _)).mp h
    rw [bs_more e, hc, decide_eq_false (by omega)]
    rfl
theorem bs_yes {f : Nat → Nat} {cn : Nat → Bool} {i : Nat} (hb : ∀ j, f j < 2147483648) (hc : cn i = true) (h : ¬ nI (f i) ≤ bs2 (bs f cn i)) : bs f cn (i + 1) = some (i, f i) := by
  cases e : bs f cn i with
  | none => rw [bs_none e, hc]; rfl
  | some p =>
    have h2 := bs_lt _ _ _ _ e
    rw [e] at h
    have h3 : ¬ f i ≤ p.2 := fun z => h ((nI_leI (hb i) (by rw [h2.2.1]; exact hb _)).mpr z)
    rw [bs_more e, hc, decide_eq_true (by omega)]
    rfl
theorem bs_skip {f : Nat → Nat} {cn : Nat → Bool} {i : Nat} (hc : cn i = false) : bs f cn (i + 1) = bs f cn i := by
  cases e : bs f cn i with
  | none => rw [bs_none e, hc]; rfl
  | some p => rw [bs_more e, hc]; rfl
theorem lkB_iff {T : Sd} {s : Nat} (hG : GS T) (hs : s < 32) : lkB T s = true ↔ lieOK T (s * 3) := by
  obtain ⟨⟨g0, g0x⟩, ⟨g1, g1x⟩, ⟨g2, g2x⟩, ⟨g3, g3x⟩, g4, ⟨g5, g5x⟩, g6, gsq, goc, gwt, gsp, gfr⟩ := hG
  unfold lkB lieOK
  rw [show s * 3 / 3 = s by omega, show s * 3 % 3 = 0 by omega]
  simp only [Bool.and_eq_true, decide_eq_true_eq, Bool.not_eq_true', decide_eq_false_iff_not]
  constructor
  · rintro ⟨⟨⟨h1, h2⟩, h3⟩, h4⟩; exact ⟨by omega, h1, h2, by omega, h3, h4⟩
  · rintro ⟨_, h1, h2, _, h3, h4⟩; exact ⟨⟨⟨h1, h2⟩, h3⟩, h4⟩
theorem ctN_z {P : Nat → Bool} {a : Nat} : ∀ d, (∀ i, a ≤ i → i < a + d → P i = false) → ctN P (a + d) = ctN P a := by
  intro d
  induction d with
  | zero => intro _; rfl
  | succ d ih =>
    intro h
    show ctN P (a + d) + (bif P (a + d) then 1 else 0) = _
    rw [h (a + d) (by omega) (by omega), ih (fun i h1 h2 => h i h1 (by omega))]
    rfl
theorem ctN_le {P : Nat → Bool} : ∀ n, ctN P n ≤ n := by
  intro n
  induction n with
  | zero => exact Nat.le_refl _
  | succ n ih => show ctN P n + (bif P n then 1 else 0) ≤ _; cases P n <;> simp <;> omega
theorem trp_out {T : Sd} {F : Nat → Nat → Nat} {w s : Nat} (h : T.1 0 ≤ s % 8 ∨ T.1 1 ≤ s / 8) : trp T F w s = false := by
  unfold trp lkB
  rcases h with h | h
  · rw [decide_eq_false (by omega : ¬ s % 8 < T.1 0)]; rfl
  · rw [decide_eq_false (by omega : ¬ s / 8 < T.1 1), Bool.and_false]; rfl
section M1
variable {g : am_H} {k : Mk} {v pl : Nat → Int32} {br lo : Int32} {c ct pr pt cm bf bt : Nat → Int32}
variable {lv : Nat} {T : Sd} {W : Nat → Lw}
variable {S : Nat → Nat}
theorem c_X11_worth {Q : Option Value → am_H → Prop} (hM : MR k lv T W) (hG : GS T) (hN : NR T (k.2.1 53) S) (hS : SG T S) {x : Int32} {bl b : Bool} (q : ∀ v pl br lo c ct, Q (some (.int (a_worth T (lwf W) S x bl b))) (mh g k v pl br lo c ct pr pt cm bf bt)) : AC am_P 9 229 272 [.ref 121, .int x, .int (bI bl), .int (bI b)] (mh g k v pl br lo c ct pr pt cm bf bt) Q := by
  refine AC.of (ls := [_, _, _, _, _, _, _, _]) rfl ?_
  have hM0 := hM
  have hG0 := hG
  obtain ⟨m0, m1, mr, mw, mf, mk, mli, mt, ms, msq, moc, mwy, msp, mlw⟩ := hM
  obtain ⟨⟨g0, g0x⟩, ⟨g1, g1x⟩, ⟨g2, g2x⟩, ⟨g3, g3x⟩, g4, ⟨g5, g5x⟩, g6, gsq, goc, gwt, gsp, gfr⟩ := hG
  have hN0 := hN
  have hS0 := hS
  obtain ⟨n0, n1, n2, n3, n4, n5, n6, n7, n8⟩ := hN
  obtain ⟨s0, s1, s2, s3, s4, s5, s6⟩ := hS
  have hl96 := s0.1
  unfold a_worth at q
  cases bl
  · skip
    refine aw rfl rfl ?_
    refine aw_cs (d1 := 1) (L1 := 22) rfl rfl (by decide) (by decide) (Nat.le_of_ble_eq_true rfl) (c_X11_isLong (fun n hn e => ?_) (fun p => ?_))
    · refine aw_ne rfl (fun _ => ?_) (fun c => absurd c (by decide))
      subst e
      rw [sp_in (Nat.zero_le _) hn (by decide)] at q
      have h6 := p6_le hn
      have hF : ∀ l w, Fc T (lwf W) none (hm T) n (S 4 * T.1 5) l w ≤ 6 ^ n := Fc_le (r := none) hG0 (fun j z => nomatch z) _ _
      have hFx := hF (S 0 * 3 + S 1) (S 2)
      have h6p := p6_pos n
      refine aw rfl rfl ?_
      refine aw rfl rfl ?_
      refine aw_cv (d1 := 8) (L1 := 208) rfl rfl mg_121 rfl rfl (by decide) (by decide) (Nat.le_of_ble_eq_true rfl) (c_X11_fills hM0 hG0 hn (by have := Nat.mul_le_mul s3 g5x; omega) n5 (fun v pl br lo c ct hc => ?_))
      refine aw rfl rfl ?_
      refine aw_cv (d1 := 3) (L1 := 64) rfl rfl mg_121 rfl rfl (by decide) (by decide) (Nat.le_of_ble_eq_true rfl) (c_X11_isOver hM0 hG0 hN0 hS0 (fun z => ?_) (fun z => ?_))
      · refine aw_eq rfl (fun c => absurd c (by decide)) (fun _ => ?_)
        rw [if_neg z] at q
        refine aw_c (v := nI 0) rfl (by decide) ?_
        refine aw_c (v := nI 1) rfl (by decide) ?_
        refine aw rfl rfl ?_
        refine aw_cs (d1 := 1) (L1 := 24) rfl rfl (by decide) (by decide) (Nat.le_of_ble_eq_true rfl) (c_X11_lineOf (a := 0) (m := 1) (by decide) (by decide) (by decide) ?_)
        exact aw_iret rfl rfl (q _ _ _ _ _ _)
      · refine aw_eq rfl (fun _ => ?_) (fun c => absurd (by decide) c)
        rw [if_pos z] at q
        refine aw rfl rfl ?_
        refine aw_cv (d1 := 1) (L1 := 23) rfl rfl mg_121 rfl rfl (by decide) (by decide) (Nat.le_of_ble_eq_true rfl) (c_X11_stateNow hM0 hG0 hN0 hS0 (fun y => absurd y (by omega)) (fun _ => ?_))
        refine aw_ist (ls' := [_, _, _, _, _, _, _, _]) rfl rfl ?_
        refine aw rfl rfl ?_
        refine aw_eq rfl (fun _ => ?_) (fun c => absurd (by decide) c)
        refine aw rfl rfl ?_
        refine aw_getf rfl mg_121 rfl ?_
        refine aw rfl rfl ?_
        refine aw_ialdE rfl mg_159 rfl (by omega) (by decide) (hc.1 _ _ s0 (by omega)) ?_
        refine aw_ist (ls' := [_, _, _, _, _, _, _, _]) rfl rfl ?_
        refine aw_c (v := nI 0) rfl (by decide) ?_
        refine aw_ist (ls' := [_, _, _, _, _, _, _, _]) rfl rfl ?_
        refine aw_loop (α := Option Value) (ll := fun i y => [some (.ref 121), some (.int (nI n)), some (.int (bI false)), some (.int (bI b)), some (.int (nI (4 * (S 0 * 3 + S 1) + S 2))), some (.int (nI (tm T (Fc T (lwf W) none (hm T) n (S 4 * T.1 5)) (S 0 * 3 + S 1) (S 2) i))), some (.int (nI i)), y]) (hh := fun i y => (mh g k v pl br lo c ct pr pt cm bf bt)) (I := fun i y => True) (N := 4) (fun i y hi hI ih => ?_) (fun y hI => ?_) 0 none (Nat.zero_le _) trivial
        · skip
          have htm := tm_le (T := T) (l := S 0 * 3 + S 1) (w := S 2) hF i
          have htn := tm_le (T := T) (l := S 0 * 3 + S 1) (w := S 2) hF (i + 1)
          refine aw rfl rfl ?_
          refine aw_c (v := nI 4) rfl (by decide) ?_
          refine aw_igen rfl (fun c65 => by omega) (fun c65 => ?_)
          refine aw rfl rfl ?_
          refine aw_ne rfl (fun c => absurd (by decide) c) (fun _ => ?_)
          refine aw rfl rfl ?_
          refine aw rfl rfl ?_
          refine aw rfl rfl ?_
          refine aw_cv (d1 := 2) (L1 := 44) rfl rfl mg_121 rfl rfl (by decide) (by decide) (Nat.le_of_ble_eq_true rfl) (c_X11_touched hM0 hG0 s0 (by omega) (by omega) (fun u hu => ?_) (fun hu => ?_))
          · rw [show (S 0 * 3 + S 1) / 3 = S 0 by omega, show (S 0 * 3 + S 1) % 3 = S 1 by omega] at *
            have hlu : lieOK T (u * 3 + S 1) := tcS_lie hG0 (by have := s0.2.1; omega) (by have := s0.2.2.1; omega) (by have := s0.2.2.2.1; omega) hu
            have hlu96 := hlu.1
            have hFu := hF (u * 3 + S 1) (S 2)
            refine aw_ist (ls' := [_, _, _, _, _, _, _, _]) rfl rfl ?_
            refine aw rfl rfl ?_
            refine aw_ltn rfl ?_
            refine aw rfl rfl ?_
            refine aw_getf rfl mg_121 rfl ?_
            refine aw rfl rfl ?_
            refine aw_ialdE rfl mg_159 rfl (by omega) (by decide) (hc.1 _ _ hlu (by omega)) ?_
            refine aw rfl rfl ?_
            refine aw_ilen rfl (fun c96 => ?_) (fun c96 => ?_)
            · refine aw_incn (c := 1) (ls' := [_, _, _, _, _, _, _, _]) rfl rfl (by decide) rfl ?_
              refine aw rfl rfl ?_
              have e5 : tm T (Fc T (lwf W) none (hm T) n (S 4 * T.1 5)) (S 0 * 3 + S 1) (S 2) (i + 1) = tm T (Fc T (lwf W) none (hm T) n (S 4 * T.1 5)) (S 0 * 3 + S 1) (S 2) i := by rw [tm, show (S 0 * 3 + S 1) / 3 = S 0 by omega, hu]; show (if _ < _ then _ else _) = _; rw [show (S 0 * 3 + S 1) % 3 = S 1 by omega, if_neg (by omega)]
              have ih := ih (some (.int (nI (4 * (u * 3 + S 1) + S 2)))) trivial
              rw [e5] at ih
              exact ih
            · refine aw rfl rfl ?_
              refine aw_getf rfl mg_121 rfl ?_
              refine aw rfl rfl ?_
              refine aw_ialdE rfl mg_159 rfl (by omega) (by decide) (hc.1 _ _ hlu (by omega)) ?_
              refine aw_ist (ls' := [_, _, _, _, _, _, _, _]) rfl rfl ?_
              refine aw_incn (c := 1) (ls' := [_, _, _, _, _, _, _, _]) rfl rfl (by decide) rfl ?_
              refine aw rfl rfl ?_
              have e5 : tm T (Fc T (lwf W) none (hm T) n (S 4 * T.1 5)) (S 0 * 3 + S 1) (S 2) (i + 1) = Fc T (lwf W) none (hm T) n (S 4 * T.1 5) (u * 3 + S 1) (S 2) := by rw [tm, show (S 0 * 3 + S 1) / 3 = S 0 by omega, hu]; show (if _ < _ then _ else _) = _; rw [show (S 0 * 3 + S 1) % 3 = S 1 by omega, if_pos (by omega)]
              have ih := ih (some (.int (nI (4 * (u * 3 + S 1) + S 2)))) trivial
              rw [e5] at ih
              exact ih
          · refine aw_ist (ls' := [_, _, _, _, _, _, _, _]) rfl rfl ?_
            refine aw rfl rfl ?_
            refine aw_lt rfl (fun _ => ?_) (fun c => absurd (by decide) c)
            refine aw_incn (c := 1) (ls' := [_, _, _, _, _, _, _, _]) rfl rfl (by decide) rfl ?_
            refine aw rfl rfl ?_
            have e5 : tm T (Fc T (lwf W) none (hm T) n (S 4 * T.1 5)) (S 0 * 3 + S 1) (S 2) (i + 1) = tm T (Fc T (lwf W) none (hm T) n (S 4 * T.1 5)) (S 0 * 3 + S 1) (S 2) i := by rw [tm, hu]
            have ih := ih (some (.int (-1))) trivial
            rw [e5] at ih
            exact ih
        · skip
          have htm := tm_le (T := T) (l := S 0 * 3 + S 1) (w := S 2) hF 4
          have htg := tm_ge (T := T) (F := Fc T (lwf W) none (hm T) n (S 4 * T.1 5)) (l := S 0 * 3 + S 1) (w := S 2) 4
          refine aw rfl rfl ?_
          refine aw_c (v := nI 4) rfl (by decide) ?_
          refine aw_ige rfl (fun _ => ?_) (fun c => absurd (by decide) c)
          refine aw rfl rfl ?_
          refine aw rfl rfl ?_
          refine aw_getf rfl mg_121 rfl ?_
          refine aw rfl rfl ?_
          refine aw_ialdE rfl mg_159 rfl (by omega) (by decide) (hc.1 _ _ s0 (by omega)) ?_
          refine aw_subn rfl (by omega) ?_
          refine aw rfl rfl ?_
          refine aw_cs (d1 := 0) (L1 := 0) rfl rfl (by decide) (by decide) (Nat.le_of_ble_eq_true rfl) (c_sixes (by omega) ?_)
          refine aw rfl rfl ?_
          refine aw_cs (d1 := 1) (L1 := 24) rfl rfl (by decide) (by decide) (Nat.le_of_ble_eq_true rfl) (c_X11_lineOf (by omega) h6p (by omega) ?_)
          exact aw_iret rfl rfl (q _ _ _ _ _ _)
    · refine aw_ne rfl (fun c => absurd (by decide) c) (fun _ => ?_)
      refine aw_c (v := -1) rfl (by decide) ?_
      exact aw_iret rfl rfl (by rw [sp_out p] at q; exact q _ _ _ _ _ _)
  · skip
    refine aw rfl rfl ?_
    refine aw_cs (d1 := 1) (L1 := 22) rfl rfl (by decide) (by decide) (Nat.le_of_ble_eq_true rfl) (c_X11_isLong (fun n hn e => ?_) (fun p => ?_))
    · refine aw_ne rfl (fun _ => ?_) (fun c => absurd c (by decide))
      subst e
      rw [sp_in (Nat.zero_le _) hn (by decide)] at q
      have h6 := p6_le hn
      have hF : ∀ l w, Fc T (lwf W) none (hm T) n (S 4 * T.1 5) l w ≤ 6 ^ n := Fc_le (r := none) hG0 (fun j z => nomatch z) _ _
      have hFx := hF (S 0 * 3 + S 1) (S 2)
      have h6p := p6_pos n
      have hFm : Fc T (lwf W) none (hm T) n (S 4 * T.1 5) (S 0 * 3 + S 1) (S 2) ≤ Fc T (lwf W) none (hm T) n (S 4 * T.1 5) (S 0 * 3 + S 1) (S 2 + 1) := Fc_mono _ _ _ _
      have hF1 := hF (S 0 * 3 + S 1) (S 2 + 1)
      refine aw rfl rfl ?_
      refine aw rfl rfl ?_
      refine aw_cv (d1 := 8) (L1 := 208) rfl rfl mg_121 rfl rfl (by decide) (by decide) (Nat.le_of_ble_eq_true rfl) (c_X11_fills hM0 hG0 hn (by have := Nat.mul_le_mul s3 g5x; omega) n5 (fun v pl br lo c ct hc => ?_))
      refine aw rfl rfl ?_
      refine aw_cv (d1 := 3) (L1 := 64) rfl rfl mg_121 rfl rfl (by decide) (by decide) (Nat.le_of_ble_eq_true rfl) (c_X11_isOver hM0 hG0 hN0 hS0 (fun z => ?_) (fun z => ?_))
      · refine aw_eq rfl (fun c => absurd c (by decide)) (fun _ => ?_)
        rw [if_neg z] at q
        refine aw_c (v := nI 0) rfl (by decide) ?_
        refine aw_c (v := nI 1) rfl (by decide) ?_
        refine aw rfl rfl ?_
        refine aw_cs (d1 := 1) (L1 := 24) rfl rfl (by decide) (by decide) (Nat.le_of_ble_eq_true rfl) (c_X11_lineOf (a := 0) (m := 1) (by decide) (by decide) (by decide) ?_)
        exact aw_iret rfl rfl (q _ _ _ _ _ _)
      · refine aw_eq rfl (fun _ => ?_) (fun c => absurd (by decide) c)
        rw [if_pos z] at q
        refine aw rfl rfl ?_
        refine aw_cv (d1 := 1) (L1 := 23) rfl rfl mg_121 rfl rfl (by decide) (by decide) (Nat.le_of_ble_eq_true rfl) (c_X11_stateNow hM0 hG0 hN0 hS0 (fun y => absurd y (by omega)) (fun _ => ?_))
        refine aw_ist (ls' := [_, _, _, _, _, _, _, _]) rfl rfl ?_
        refine aw rfl rfl ?_
        refine aw_eq rfl (fun c => absurd c (by decide)) (fun _ => ?_)
        refine aw rfl rfl ?_
        refine aw_getf rfl mg_121 rfl ?_
        refine aw rfl rfl ?_
        refine aw_c (v := nI 1) rfl (by decide) ?_
        refine aw_addn rfl ?_
        rw [show 4 * (S 0 * 3 + S 1) + S 2 + 1 = 4 * (S 0 * 3 + S 1) + (S 2 + 1) by omega]
        refine aw_ialdE rfl mg_159 rfl (by omega) (by decide) (hc.1 _ _ s0 (by omega)) ?_
        refine aw rfl rfl ?_
        refine aw_ist (ls' := [_, _, _, _, _, _, _, _]) rfl rfl ?_
        refine aw_c (v := nI 0) rfl (by decide) ?_
        refine aw_ist (ls' := [_, _, _, _, _, _, _, _]) rfl rfl ?_
        refine aw rfl rfl ?_
        refine aw_c (v := nI 4) rfl (by decide) ?_
        refine aw_ige rfl (fun c => absurd c (by decide)) (fun _ => ?_)
        refine aw rfl rfl ?_
        refine aw_ne rfl (fun _ => ?_) (fun c => absurd c (by decide))
        refine aw rfl rfl ?_
        refine aw rfl rfl ?_
        refine aw_getf rfl mg_121 rfl ?_
        refine aw rfl rfl ?_
        refine aw_ialdE rfl mg_159 rfl (by omega) (by decide) (hc.1 _ _ s0 (by omega)) ?_
        refine aw_subn rfl (by omega) ?_
        refine aw rfl rfl ?_
        refine aw_cs (d1 := 0) (L1 := 0) rfl rfl (by decide) (by decide) (Nat.le_of_ble_eq_true rfl) (c_sixes (by omega) ?_)
        refine aw rfl rfl ?_
        refine aw_cs (d1 := 1) (L1 := 24) rfl rfl (by decide) (by decide) (Nat.le_of_ble_eq_true rfl) (c_X11_lineOf (by omega) h6p (by omega) ?_)
        exact aw_iret rfl rfl (q _ _ _ _ _ _)
    · refine aw_ne rfl (fun c => absurd (by decide) c) (fun _ => ?_)
      refine aw_c (v := -1) rfl (by decide) ?_
      exact aw_iret rfl rfl (by rw [sp_out p] at q; exact q _ _ _ _ _ _)
theorem c_X11_face {Q : Option Value → am_H → Prop} (hM : MR k lv T W) (hG : GS T) (hN : NR T (k.2.1 53) S) (hS : SG T S) {x : Int32} (q : ∀ v pl br lo c ct, Q (some (.int (a_face T (lwf W) S x))) (mh g k v pl br lo c ct pr pt cm bf bt)) : AC am_P 9 229 273 [.ref 121, .int x] (mh g k v pl br lo c ct pr pt cm bf bt) Q := by
  refine AC.of (ls := [_, _, _, _, _]) rfl ?_
  have hM0 := hM
  have hG0 := hG
  obtain ⟨m0, m1, mr, mw, mf, mk, mli, mt, ms, msq, moc, mwy, msp, mlw⟩ := hM
  obtain ⟨⟨g0, g0x⟩, ⟨g1, g1x⟩, ⟨g2, g2x⟩, ⟨g3, g3x⟩, g4, ⟨g5, g5x⟩, g6, gsq, goc, gwt, gsp, gfr⟩ := hG
  have hN0 := hN
  have hS0 := hS
  obtain ⟨n0, n1, n2, n3, n4, n5, n6, n7, n8⟩ := hN
  obtain ⟨s0, s1, s2, s3, s4, s5, s6⟩ := hS
  have hl96 := s0.1
  unfold a_face at q
  refine aw rfl rfl ?_
  refine aw_cs (d1 := 1) (L1 := 22) rfl rfl (by decide) (by decide) (Nat.le_of_ble_eq_true rfl) (c_X11_isLong (fun n hn e => ?_) (fun p => ?_))
  · refine aw_ne rfl (fun _ => ?_) (fun c => absurd c (by decide))
    subst e
    rw [sp_in (Nat.zero_le _) hn (by decide)] at q
    have h6 := p6_le hn
    have hF : ∀ l w, Fc T (lwf W) none (hm T) n (S 4 * T.1 5) l w ≤ 6 ^ n := Fc_le (r := none) hG0 (fun j z => nomatch z) _ _
    have hFx := hF (S 0 * 3 + S 1) (S 2)
    have h6p := p6_pos n
    refine aw rfl rfl ?_
    refine aw_cv (d1 := 3) (L1 := 64) rfl rfl mg_121 rfl rfl (by decide) (by decide) (Nat.le_of_ble_eq_true rfl) (c_X11_isOver hM0 hG0 hN0 hS0 (fun z => ?_) (fun z => ?_))
    · refine aw_eq rfl (fun c => absurd c (by decide)) (fun _ => ?_)
      rw [if_neg z] at q
      refine aw_c (v := -2) rfl (by decide) ?_
      exact aw_iret rfl rfl (q _ _ _ _ _ _)
    · refine aw_eq rfl (fun _ => ?_) (fun c => absurd (by decide) c)
      rw [if_pos z] at q
      refine aw rfl rfl ?_
      refine aw rfl rfl ?_
      refine aw_cv (d1 := 8) (L1 := 208) rfl rfl mg_121 rfl rfl (by decide) (by decide) (Nat.le_of_ble_eq_true rfl) (c_X11_fills hM0 hG0 hn (by have := Nat.mul_le_mul s3 g5x; omega) n5 (fun v pl br lo c ct hc => ?_))
      refine aw_c (v := nI 0) rfl (by decide) ?_
      refine aw_ist (ls' := [_, _, _, _, _]) rfl rfl ?_
      refine aw rfl rfl ?_
      refine aw_getf rfl mg_121 rfl ?_
      refine aw_c (v := nI 0) rfl (by decide) ?_
      refine aw_ialdE rfl mg_157 rfl (by omega) (by decide) n0 ?_
      refine aw rfl rfl ?_
      refine aw_getf rfl mg_121 rfl ?_
      refine aw_c (v := nI 1) rfl (by decide) ?_
      refine aw_ialdE rfl mg_157 rfl (by omega) (by decide) n1 ?_
      refine aw_c (v := nI 0) rfl (by decide) ?_
      refine aw rfl rfl ?_
      refine aw_getf rfl mg_121 rfl ?_
      refine aw_c (v := nI 3) rfl (by decide) ?_
      refine aw_ialdE rfl mg_157 rfl (by omega) (by decide) n3 ?_
      refine aw_cs (d1 := 0) (L1 := 0) rfl rfl (by decide) (by decide) (Nat.le_of_ble_eq_true rfl) (c_X11_numberOf ?_)
      refine aw_ist (ls' := [_, _, _, _, _]) rfl rfl ?_
      refine aw_c (v := nI 1) rfl (by decide) ?_
      refine aw_ist (ls' := [_, _, _, _, _]) rfl rfl ?_
      refine aw_loop (α := Unit) (ll := fun i y => [some (.ref 121), some (.int (nI n)), some (.int (nI (bsA (bs (fun f => Fc T (lwf W) none (hm T) n (S 4 * T.1 5) (S 0 * 3 + f) (S 2)) tt (i))))), some (.int (nI (((8 * (S 0 / 8) + S 0 % 8) * 3 + 0) * 4 + S 2))), some (.int (nI i))]) (hh := fun i y => (mh g k v pl br lo c ct pr pt cm bf bt)) (I := fun i y => 1 ≤ i ∧ ∃ p, (bs (fun f => Fc T (lwf W) none (hm T) n (S 4 * T.1 5) (S 0 * 3 + f) (S 2)) tt (i)) = some p) (N := T.1 2) (fun i y hi hI ih => ?_) (fun y hI => ?_) 1 () g2 ⟨Nat.le_refl _, _, rfl⟩
      · skip
        have hb : ∀ j, (fun f => Fc T (lwf W) none (hm T) n (S 4 * T.1 5) (S 0 * 3 + f) (S 2)) j < 2147483648 := fun j => by have := hF (S 0 * 3 + j) (S 2); dsimp only; omega
        obtain ⟨h1i, p, eb⟩ := hI
        have hpl := bs_lt _ _ _ _ eb
        rw [eb]
        show AW am_P _ _ _ _ [_, _, some (.int (nI p.1)), _, _] _ _ _
        have hp1 : p.1 < T.1 2 := by omega
        have hl1 : lieOK T (S 0 * 3 + i) := lie_face s0 (by omega) hi g2x
        have hl2 : lieOK T (S 0 * 3 + p.1) := lie_face s0 (by omega) hp1 g2x
        have hFi := hF (S 0 * 3 + i) (S 2)
        have hFp := hF (S 0 * 3 + p.1) (S 2)
        refine aw rfl rfl ?_
        refine aw rfl rfl ?_
        refine aw_getf rfl mg_121 rfl ?_
        refine aw rfl rfl ?_
        refine aw_getfE rfl mg_121 rfl (congrArg Value.int m1) ?_
        refine aw_ialdE rfl mg_133 rfl (by omega) (by decide) mf ?_
        refine aw_igen rfl (fun c63 => by omega) (fun c63 => ?_)
        refine aw rfl rfl ?_
        refine aw_getf rfl mg_121 rfl ?_
        refine aw rfl rfl ?_
        refine aw_c (v := nI 4) rfl (by decide) ?_
        refine aw rfl rfl ?_
        refine aw_muln rfl ?_
        refine aw_addn rfl ?_
        rw [show ((8 * (S 0 / 8) + S 0 % 8) * 3 + 0) * 4 + S 2 + 4 * i = 4 * (S 0 * 3 + i) + S 2 by omega]
        refine aw_ialdE rfl mg_159 rfl (by omega) (by decide) (hc.1 _ _ hl1 (by omega)) ?_
        refine aw rfl rfl ?_
        refine aw_getf rfl mg_121 rfl ?_
        refine aw rfl rfl ?_
        refine aw_c (v := nI 4) rfl (by decide) ?_
        refine aw rfl rfl ?_
        refine aw_muln rfl ?_
        refine aw_addn rfl ?_
        rw [show ((8 * (S 0 / 8) + S 0 % 8) * 3 + 0) * 4 + S 2 + 4 * p.1 = 4 * (S 0 * 3 + p.1) + S 2 by omega]
        refine aw_ialdE rfl mg_159 rfl (by omega) (by decide) (hc.1 _ _ hl2 (by omega)) ?_
        refine aw_ilen rfl (fun c87 => ?_) (fun c87 => ?_)
        · refine aw_incn (c := 1) (ls' := [_, _, _, _, _]) rfl rfl (by decide) rfl ?_
          refine aw rfl rfl ?_
          have e5 : (bs (fun f => Fc T (lwf W) none (hm T) n (S 4 * T.1 5) (S 0 * 3 + f) (S 2)) tt (i + 1)) = some p := by rw [bs_no hb rfl (by rw [eb]; show nI (Fc T _ none _ n _ (S 0 * 3 + i) (S 2)) ≤ nI p.2; rw [hpl.2.1]; exact nI_le c87 (by omega))]; exact eb
          have ih := ih () ⟨by omega, p, e5⟩
          rw [e5] at ih
          exact ih
        · refine aw rfl rfl ?_
          refine aw_ist (ls' := [_, _, _, _, _]) rfl rfl ?_
          refine aw_incn (c := 1) (ls' := [_, _, _, _, _]) rfl rfl (by decide) rfl ?_
          refine aw rfl rfl ?_
          have e5 : (bs (fun f => Fc T (lwf W) none (hm T) n (S 4 * T.1 5) (S 0 * 3 + f) (S 2)) tt (i + 1)) = some (i, Fc T (lwf W) none (hm T) n (S 4 * T.1 5) (S 0 * 3 + i) (S 2)) := bs_yes hb rfl (by rw [eb]; show ¬ nI (Fc T _ none _ n _ (S 0 * 3 + i) (S 2)) ≤ nI p.2; rw [hpl.2.1]; exact nI_ge (by omega) (by omega))
          have ih := ih () ⟨by omega, _, e5⟩
          rw [e5] at ih
          exact ih
      · skip
        refine aw rfl rfl ?_
        refine aw rfl rfl ?_
        refine aw_getf rfl mg_121 rfl ?_
        refine aw rfl rfl ?_
        refine aw_getfE rfl mg_121 rfl (congrArg Value.int m1) ?_
        refine aw_ialdE rfl mg_133 rfl (by omega) (by decide) mf ?_
        refine aw_igen rfl (fun c63 => ?_) (fun c63 => by omega)
        refine aw rfl rfl ?_
        exact aw_iret rfl rfl (q _ _ _ _ _ _)
  · refine aw_ne rfl (fun c => absurd (by decide) c) (fun _ => ?_)
    refine aw_c (v := -1) rfl (by decide) ?_
    exact aw_iret rfl rfl (by rw [sp_out p] at q; exact q _ _ _ _ _ _)
theorem c_X11_side {Q : Option Value → am_H → Prop} (hM : MR k lv T W) (hG : GS T) (hN : NR T (k.2.1 53) S) (hS : SG T S) {x : Int32} (q : ∀ v pl br lo c ct, Q (some (.int (a_side T (lwf W) S x))) (mh g k v pl br lo c ct pr pt cm bf bt)) : AC am_P 9 229 274 [.ref 121, .int x] (mh g k v pl br lo c ct pr pt cm bf bt) Q := by
  refine AC.of (ls := [_, _, _, _, _]) rfl ?_
  have hM0 := hM
  have hG0 := hG
  obtain ⟨m0, m1, mr, mw, mf, mk, mli, mt, ms, msq, moc, mwy, msp, mlw⟩ := hM
  obtain ⟨⟨g0, g0x⟩, ⟨g1, g1x⟩, ⟨g2, g2x⟩, ⟨g3, g3x⟩, g4, ⟨g5, g5x⟩, g6, gsq, goc, gwt, gsp, gfr⟩ := hG
  have hN0 := hN
  have hS0 := hS
  obtain ⟨n0, n1, n2, n3, n4, n5, n6, n7, n8⟩ := hN
  obtain ⟨s0, s1, s2, s3, s4, s5, s6⟩ := hS
  have hl96 := s0.1
  unfold a_side at q
  refine aw rfl rfl ?_
  refine aw_cs (d1 := 1) (L1 := 22) rfl rfl (by decide) (by decide) (Nat.le_of_ble_eq_true rfl) (c_X11_isLong (fun n hn e => ?_) (fun p => ?_))
  · refine aw_ne rfl (fun _ => ?_) (fun c => absurd c (by decide))
    subst e
    rw [sp_in (Nat.zero_le _) hn (by decide)] at q
    have h6 := p6_le hn
    have hF : ∀ l w, Fc T (lwf W) none (hm T) n (S 4 * T.1 5) l w ≤ 6 ^ n := Fc_le (r := none) hG0 (fun j z => nomatch z) _ _
    have hFx := hF (S 0 * 3 + S 1) (S 2)
    have h6p := p6_pos n
    refine aw rfl rfl ?_
    refine aw_cv (d1 := 3) (L1 := 64) rfl rfl mg_121 rfl rfl (by decide) (by decide) (Nat.le_of_ble_eq_true rfl) (c_X11_isOver hM0 hG0 hN0 hS0 (fun z => ?_) (fun z => ?_))
    · refine aw_eq rfl (fun c => absurd c (by decide)) (fun _ => ?_)
      rw [if_neg z] at q
      refine aw_c (v := -2) rfl (by decide) ?_
      exact aw_iret rfl rfl (q _ _ _ _ _ _)
    · refine aw_eq rfl (fun _ => ?_) (fun c => absurd (by decide) c)
      rw [if_pos z] at q
      refine aw rfl rfl ?_
      refine aw rfl rfl ?_
      refine aw_cv (d1 := 8) (L1 := 208) rfl rfl mg_121 rfl rfl (by decide) (by decide) (Nat.le_of_ble_eq_true rfl) (c_X11_fills hM0 hG0 hn (by have := Nat.mul_le_mul s3 g5x; omega) n5 (fun v pl br lo c ct hc => ?_))
      refine aw_c (v := -2) rfl (by decide) ?_
      refine aw_ist (ls' := [_, _, _, _, _]) rfl rfl ?_
      refine aw_c (v := nI 0) rfl (by decide) ?_
      refine aw_ist (ls' := [_, _, _, _, _]) rfl rfl ?_
      refine aw_loop (α := Option Value) (ll := fun i y => [some (.ref 121), some (.int (nI n)), some (.int (bs3 (bs (sdf (Fc T (lwf W) none (hm T) n (S 4 * T.1 5)) (S 0 % 8) (S 1) (S 2)) (sdc T (S 0 % 8)) (i)))), some (.int (nI i)), y]) (hh := fun i y => (mh g k v pl br lo c ct pr pt cm bf bt)) (I := fun i y => True) (N := T.1 1) (fun i y hi hI ih => ?_) (fun y hI => ?_) 0 none (Nat.zero_le _) trivial
      · skip
        have hb : ∀ j, sdf (Fc T (lwf W) none (hm T) n (S 4 * T.1 5)) (S 0 % 8) (S 1) (S 2) j < 2147483648 := fun j => by have := hF ((j * 8 + S 0 % 8) * 3 + S 1) (S 2); unfold sdf; omega
        have ha : S 0 % 8 < T.1 0 := by have := s0.2.1; rw [show (S 0 * 3 + S 1) / 3 = S 0 by omega] at this; exact this
        have h12 : S 1 < T.1 2 := by have := s0.2.2.2.1; omega
        cases eb : (bs (sdf (Fc T (lwf W) none (hm T) n (S 4 * T.1 5)) (S 0 % 8) (S 1) (S 2)) (sdc T (S 0 % 8)) (i)) with
        | none =>
          show AW am_P _ _ _ _ [_, _, some (.int (-2)), _, _] _ _ _
          refine aw rfl rfl ?_
          refine aw rfl rfl ?_
          refine aw_getf rfl mg_121 rfl ?_
          refine aw rfl rfl ?_
          refine aw_getfE rfl mg_121 rfl (congrArg Value.int m1) ?_
          refine aw_ialdE rfl mg_130 rfl (by omega) (by decide) mr ?_
          refine aw_igen rfl (fun c39 => by omega) (fun c39 => ?_)
          refine aw rfl rfl ?_
          refine aw rfl rfl ?_
          refine aw_getf rfl mg_121 rfl ?_
          refine aw_c (v := nI 0) rfl (by decide) ?_
          refine aw_ialdE rfl mg_157 rfl (by omega) (by decide) n0 ?_
          refine aw rfl rfl ?_
          refine aw_cv (d1 := 0) (L1 := 0) rfl rfl mg_121 rfl rfl (by decide) (by decide) (Nat.le_of_ble_eq_true rfl) (c_sa hM0 hG0 ha hi ?_)
          refine aw_ist (ls' := [_, _, _, _, _]) rfl rfl ?_
          refine aw rfl rfl ?_
          refine aw_c (v := nI 4) rfl (by decide) ?_
          refine aw_ieq rfl (fun c58 => ?_) (fun c58 => ?_)
          · refine aw_incn (c := 1) (ls' := [_, _, _, _, _]) rfl rfl (by decide) rfl ?_
            refine aw rfl rfl ?_
            have e5 : (bs (sdf (Fc T (lwf W) none (hm T) n (S 4 * T.1 5)) (S 0 % 8) (S 1) (S 2)) (sdc T (S 0 % 8)) (i + 1)) = (bs (sdf (Fc T (lwf W) none (hm T) n (S 4 * T.1 5)) (S 0 % 8) (S 1) (S 2)) (sdc T (S 0 % 8)) (i)) := bs_skip (by unfold sdc; rw [decide_eq_true c58]; rfl)
            have ih := ih (some (.int (T.2 0 (i * 8 + S 0 % 8)))) trivial
            rw [e5, eb] at ih
            exact ih
          · refine aw rfl rfl ?_
            refine aw_c (v := nI 5) rfl (by decide) ?_
            refine aw_ine rfl (fun c64 => ?_) (fun c64 => ?_)
            · have hcn : sdc T (S 0 % 8) i = true := by unfold sdc; rw [decide_eq_false c58, decide_eq_false c64]; rfl
              have hl1 : lieOK T ((i * 8 + S 0 % 8) * 3 + S 1) := lie_on ha hi h12 g0x g1x g2x c58 c64
              have hl196 := hl1.1
              refine aw rfl rfl ?_
              refine aw_lt rfl (fun _ => ?_) (fun c => absurd (by decide) c)
              refine aw rfl rfl ?_
              refine aw_ist (ls' := [_, _, _, _, _]) rfl rfl ?_
              refine aw_incn (c := 1) (ls' := [_, _, _, _, _]) rfl rfl (by decide) rfl ?_
              refine aw rfl rfl ?_
              have e5 : (bs (sdf (Fc T (lwf W) none (hm T) n (S 4 * T.1 5)) (S 0 % 8) (S 1) (S 2)) (sdc T (S 0 % 8)) (i + 1)) = some (i, sdf (Fc T (lwf W) none (hm T) n (S 4 * T.1 5)) (S 0 % 8) (S 1) (S 2) i) := bs_yes hb hcn (by rw [eb]; exact fun z => absurd (Int32.lt_of_lt_of_le (by decide : (-1 : Int32) < nI 0) (nI_le (Nat.zero_le _) (hb i))) (Int32.not_lt.mpr z))
              have ih := ih (some (.int (T.2 0 (i * 8 + S 0 % 8)))) trivial
              rw [e5] at ih
              exact ih
            · refine aw rfl rfl ?_
              refine aw_incn (c := 1) (ls' := [_, _, _, _, _]) rfl rfl (by decide) rfl ?_
              refine aw rfl rfl ?_
              have e5 : (bs (sdf (Fc T (lwf W) none (hm T) n (S 4 * T.1 5)) (S 0 % 8) (S 1) (S 2)) (sdc T (S 0 % 8)) (i + 1)) = (bs (sdf (Fc T (lwf W) none (hm T) n (S 4 * T.1 5)) (S 0 % 8) (S 1) (S 2)) (sdc T (S 0 % 8)) (i)) := bs_skip (by unfold sdc; rw [decide_eq_true c64, Bool.not_true, Bool.and_false])
              have ih := ih (some (.int (T.2 0 (i * 8 + S 0 % 8)))) trivial
              rw [e5, eb] at ih
              exact ih
        | some p =>
          show AW am_P _ _ _ _ [_, _, some (.int (nI p.1)), _, _] _ _ _
          have hpl0 := bs_lt _ _ _ _ eb
          refine aw rfl rfl ?_
          refine aw rfl rfl ?_
          refine aw_getf rfl mg_121 rfl ?_
          refine aw rfl rfl ?_
          refine aw_getfE rfl mg_121 rfl (congrArg Value.int m1) ?_
          refine aw_ialdE rfl mg_130 rfl (by omega) (by decide) mr ?_
          refine aw_igen rfl (fun c39 => by omega) (fun c39 => ?_)
          refine aw rfl rfl ?_
          refine aw rfl rfl ?_
          refine aw_getf rfl mg_121 rfl ?_
          refine aw_c (v := nI 0) rfl (by decide) ?_
          refine aw_ialdE rfl mg_157 rfl (by omega) (by decide) n0 ?_
          refine aw rfl rfl ?_
          refine aw_cv (d1 := 0) (L1 := 0) rfl rfl mg_121 rfl rfl (by decide) (by decide) (Nat.le_of_ble_eq_true rfl) (c_sa hM0 hG0 ha hi ?_)
          refine aw_ist (ls' := [_, _, _, _, _]) rfl rfl ?_
          refine aw rfl rfl ?_
          refine aw_c (v := nI 4) rfl (by decide) ?_
          refine aw_ieq rfl (fun c58 => ?_) (fun c58 => ?_)
          · refine aw_incn (c := 1) (ls' := [_, _, _, _, _]) rfl rfl (by decide) rfl ?_
            refine aw rfl rfl ?_
            have e5 : (bs (sdf (Fc T (lwf W) none (hm T) n (S 4 * T.1 5)) (S 0 % 8) (S 1) (S 2)) (sdc T (S 0 % 8)) (i + 1)) = (bs (sdf (Fc T (lwf W) none (hm T) n (S 4 * T.1 5)) (S 0 % 8) (S 1) (S 2)) (sdc T (S 0 % 8)) (i)) := bs_skip (by unfold sdc; rw [decide_eq_true c58]; rfl)
            have ih := ih (some (.int (T.2 0 (i * 8 + S 0 % 8)))) trivial
            rw [e5, eb] at ih
            exact ih
          · refine aw rfl rfl ?_
            refine aw_c (v := nI 5) rfl (by decide) ?_
            refine aw_ine rfl (fun c64 => ?_) (fun c64 => ?_)
            · have hcn : sdc T (S 0 % 8) i = true := by unfold sdc; rw [decide_eq_false c58, decide_eq_false c64]; rfl
              have hl1 : lieOK T ((i * 8 + S 0 % 8) * 3 + S 1) := lie_on ha hi h12 g0x g1x g2x c58 c64
              have hl196 := hl1.1
              have hpl := bs_lt _ _ _ _ eb
              have hcp := hpl.2.2
              have hl2 : lieOK T ((p.1 * 8 + S 0 % 8) * 3 + S 1) := by unfold sdc at hcp; rw [Bool.and_eq_true, Bool.not_eq_true', Bool.not_eq_true', decide_eq_false_iff_not, decide_eq_false_iff_not] at hcp; exact lie_on ha (by omega) h12 g0x g1x g2x hcp.1 hcp.2
              have hl296 := hl2.1
              have hFi := hF ((i * 8 + S 0 % 8) * 3 + S 1) (S 2)
              have hFp := hF ((p.1 * 8 + S 0 % 8) * 3 + S 1) (S 2)
              refine aw rfl rfl ?_
              refine aw_ltn rfl ?_
              refine aw rfl rfl ?_
              refine aw_getf rfl mg_121 rfl ?_
              refine aw rfl rfl ?_
              refine aw_getf rfl mg_121 rfl ?_
              refine aw_c (v := nI 0) rfl (by decide) ?_
              refine aw_ialdE rfl mg_157 rfl (by omega) (by decide) n0 ?_
              refine aw rfl rfl ?_
              refine aw rfl rfl ?_
              refine aw_getf rfl mg_121 rfl ?_
              refine aw_c (v := nI 2) rfl (by decide) ?_
              refine aw_ialdE rfl mg_157 rfl (by omega) (by decide) n2 ?_
              refine aw rfl rfl ?_
              refine aw_getf rfl mg_121 rfl ?_
              refine aw_c (v := nI 3) rfl (by decide) ?_
              refine aw_ialdE rfl mg_157 rfl (by omega) (by decide) n3 ?_
              refine aw_cs (d1 := 0) (L1 := 0) rfl rfl (by decide) (by decide) (Nat.le_of_ble_eq_true rfl) (c_X11_numberOf ?_)
              rw [show ((8 * i + S 0 % 8) * 3 + S 1) * 4 + S 2 = 4 * ((i * 8 + S 0 % 8) * 3 + S 1) + S 2 by omega]
              refine aw_ialdE rfl mg_159 rfl (by omega) (by decide) (hc.1 _ _ hl1 (by omega)) ?_
              refine aw rfl rfl ?_
              refine aw_getf rfl mg_121 rfl ?_
              refine aw rfl rfl ?_
              refine aw_getf rfl mg_121 rfl ?_
              refine aw_c (v := nI 0) rfl (by decide) ?_
              refine aw_ialdE rfl mg_157 rfl (by omega) (by decide) n0 ?_
              refine aw rfl rfl ?_
              refine aw rfl rfl ?_
              refine aw_getf rfl mg_121 rfl ?_
              refine aw_c (v := nI 2) rfl (by decide) ?_
              refine aw_ialdE rfl mg_157 rfl (by omega) (by decide) n2 ?_
              refine aw rfl rfl ?_
              refine aw_getf rfl mg_121 rfl ?_
              refine aw_c (v := nI 3) rfl (by decide) ?_
              refine aw_ialdE rfl mg_157 rfl (by omega) (by decide) n3 ?_
              refine aw_cs (d1 := 0) (L1 := 0) rfl rfl (by decide) (by decide) (Nat.le_of_ble_eq_true rfl) (c_X11_numberOf ?_)
              rw [show ((8 * p.1 + S 0 % 8) * 3 + S 1) * 4 + S 2 = 4 * ((p.1 * 8 + S 0 % 8) * 3 + S 1) + S 2 by omega]
              refine aw_ialdE rfl mg_159 rfl (by omega) (by decide) (hc.1 _ _ hl2 (by omega)) ?_
              refine aw_ilen rfl (fun c128 => ?_) (fun c128 => ?_)
              · refine aw_incn (c := 1) (ls' := [_, _, _, _, _]) rfl rfl (by decide) rfl ?_
                refine aw rfl rfl ?_
                have e5 : (bs (sdf (Fc T (lwf W) none (hm T) n (S 4 * T.1 5)) (S 0 % 8) (S 1) (S 2)) (sdc T (S 0 % 8)) (i + 1)) = (bs (sdf (Fc T (lwf W) none (hm T) n (S 4 * T.1 5)) (S 0 % 8) (S 1) (S 2)) (sdc T (S 0 % 8)) (i)) := bs_no hb hcn (by rw [eb]; show nI (Fc T _ none _ n _ ((i * 8 + S 0 % 8) * 3 + S 1) (S 2)) ≤ nI p.2; rw [hpl.2.1]; exact nI_le c128 (by show Fc T _ none _ n _ ((p.1 * 8 + S 0 % 8) * 3 + S 1) (S 2) < _; omega))
                have ih := ih (some (.int (T.2 0 (i * 8 + S 0 % 8)))) trivial
                rw [e5, eb] at ih
                exact ih
              · refine aw rfl rfl ?_
                refine aw_ist (ls' := [_, _, _, _, _]) rfl rfl ?_
                refine aw_incn (c := 1) (ls' := [_, _, _, _, _]) rfl rfl (by decide) rfl ?_
                refine aw rfl rfl ?_
                have e5 : (bs (sdf (Fc T (lwf W) none (hm T) n (S 4 * T.1 5)) (S 0 % 8) (S 1) (S 2)) (sdc T (S 0 % 8)) (i + 1)) = some (i, sdf (Fc T (lwf W) none (hm T) n (S 4 * T.1 5)) (S 0 % 8) (S 1) (S 2) i) := bs_yes hb hcn (by rw [eb]; show ¬ nI (Fc T _ none _ n _ ((i * 8 + S 0 % 8) * 3 + S 1) (S 2)) ≤ nI p.2; rw [hpl.2.1]; exact nI_ge (by show Fc T _ none _ n _ ((p.1 * 8 + S 0 % 8) * 3 + S 1) (S 2) < _; omega) (by omega))
                have ih := ih (some (.int (T.2 0 (i * 8 + S 0 % 8)))) trivial
                rw [e5] at ih
                exact ih
            · refine aw rfl rfl ?_
              refine aw_incn (c := 1) (ls' := [_, _, _, _, _]) rfl rfl (by decide) rfl ?_
              refine aw rfl rfl ?_
              have e5 : (bs (sdf (Fc T (lwf W) none (hm T) n (S 4 * T.1 5)) (S 0 % 8) (S 1) (S 2)) (sdc T (S 0 % 8)) (i + 1)) = (bs (sdf (Fc T (lwf W) none (hm T) n (S 4 * T.1 5)) (S 0 % 8) (S 1) (S 2)) (sdc T (S 0 % 8)) (i)) := bs_skip (by unfold sdc; rw [decide_eq_true c64, Bool.not_true, Bool.and_false])
              have ih := ih (some (.int (T.2 0 (i * 8 + S 0 % 8)))) trivial
              rw [e5, eb] at ih
              exact ih
      · skip
        refine aw rfl rfl ?_
        refine aw rfl rfl ?_
        refine aw_getf rfl mg_121 rfl ?_
        refine aw rfl rfl ?_
        refine aw_getfE rfl mg_121 rfl (congrArg Value.int m1) ?_
        refine aw_ialdE rfl mg_130 rfl (by omega) (by decide) mr ?_
        refine aw_igen rfl (fun c39 => ?_) (fun c39 => by omega)
        refine aw rfl rfl ?_
        exact aw_iret rfl rfl (q _ _ _ _ _ _)
  · refine aw_ne rfl (fun c => absurd (by decide) c) (fun _ => ?_)
    refine aw_c (v := -1) rfl (by decide) ?_
    exact aw_iret rfl rfl (by rw [sp_out p] at q; exact q _ _ _ _ _ _)
end M1
end
section
/-! ===== the reference: goBy, trap ===== -/
theorem wl_lt {T : Sd} {LW : LWt} {l t w : Nat} : ∀ i u, wl T LW l t w i = some u → u ≤ w := by
  intro i
  induction i with
  | zero => intro u h; cases h; exact Nat.le_refl _
  | succ i ih =>
    intro u h
    rw [wl] at h
    cases e : wl T LW l t w i with
    | none => rw [e] at h; cases h
    | some z =>
      rw [e] at h
      have := ih z e
      unfold wl1 at h
      cases hb : decide (n_land T LW l 24 (nI (t + i * T.1 5)) = -1) with
      | true =>
        rw [hb] at h
        dsimp only [cond_true] at h
        by_cases h0 : z = 0
        · rw [if_pos h0] at h; cases h
        · rw [if_neg h0] at h; cases h; omega
      | false => rw [hb] at h; cases h; exact this
theorem wlS_lsg {l u : Nat} : wlS l (if u = 0 then none else some (u - 1)) = lsg l u := by
  unfold lsg
  by_cases h0 : u = 0
  · rw [if_pos h0, if_pos h0]; rfl
  · rw [if_neg h0, if_neg h0]; rfl
section M1
variable {g : am_H} {k : Mk} {v pl : Nat → Int32} {br lo : Int32} {c ct pr pt cm bf bt : Nat → Int32}
variable {lv : Nat} {T : Sd} {W : Nat → Lw}
variable {S : Nat → Nat}
theorem c_X11_goBy {Q : Option Value → am_H → Prop} (hM : MR k lv T W) (hG : GS T) (hN : NR T (k.2.1 53) S) (hS : SG T S) {x : Int32} (q : ∀ v pl br lo c ct, Q (some (.int (a_goBy T (lwf W) S x))) (mh g k v pl br lo c ct pr pt cm bf bt)) : AC am_P 8 208 275 [.ref 121, .int x] (mh g k v pl br lo c ct pr pt cm bf bt) Q := by
  refine AC.of (ls := [_, _, _, _, _, _, _]) rfl ?_
  have hM0 := hM
  have hG0 := hG
  obtain ⟨m0, m1, mr, mw, mf, mk, mli, mt, ms, msq, moc, mwy, msp, mlw⟩ := hM
  obtain ⟨⟨g0, g0x⟩, ⟨g1, g1x⟩, ⟨g2, g2x⟩, ⟨g3, g3x⟩, g4, ⟨g5, g5x⟩, g6, gsq, goc, gwt, gsp, gfr⟩ := hG
  have hN0 := hN
  have hS0 := hS
  obtain ⟨n0, n1, n2, n3, n4, n5, n6, n7, n8⟩ := hN
  obtain ⟨s0, s1, s2, s3, s4, s5, s6⟩ := hS
  have hl96 := s0.1
  unfold a_goBy at q
  refine aw rfl rfl ?_
  refine aw_cs (d1 := 1) (L1 := 22) rfl rfl (by decide) (by decide) (Nat.le_of_ble_eq_true rfl) (c_X11_isLong (fun n hn e => ?_) (fun p => ?_))
  · refine aw_ne rfl (fun _ => ?_) (fun c => absurd c (by decide))
    subst e
    rw [sp_in (Nat.zero_le _) hn (by decide)] at q
    have h6 := p6_le hn
    have hF : ∀ l w, Fc T (lwf W) none (hm T) n (S 4 * T.1 5) l w ≤ 6 ^ n := Fc_le (r := none) hG0 (fun j z => nomatch z) _ _
    have hFx := hF (S 0 * 3 + S 1) (S 2)
    have h6p := p6_pos n
    refine aw rfl rfl ?_
    refine aw_cv (d1 := 3) (L1 := 64) rfl rfl mg_121 rfl rfl (by decide) (by decide) (Nat.le_of_ble_eq_true rfl) (c_X11_isOver hM0 hG0 hN0 hS0 (fun z => ?_) (fun z => ?_))
    · refine aw_eq rfl (fun c => absurd c (by decide)) (fun _ => ?_)
      rw [if_neg z] at q
      refine aw_c (v := -2) rfl (by decide) ?_
      exact aw_iret rfl rfl (q _ _ _ _ _ _)
    · refine aw_eq rfl (fun _ => ?_) (fun c => absurd (by decide) c)
      rw [if_pos z] at q
      refine aw rfl rfl ?_
      refine aw_cv (d1 := 1) (L1 := 23) rfl rfl mg_121 rfl rfl (by decide) (by decide) (Nat.le_of_ble_eq_true rfl) (c_X11_stateNow hM0 hG0 hN0 hS0 (fun y => absurd y (by omega)) (fun _ => ?_))
      refine aw_ist (ls' := [_, _, _, _, _, _, _]) rfl rfl ?_
      refine aw_c (v := nI 0) rfl (by decide) ?_
      refine aw_ist (ls' := [_, _, _, _, _, _, _]) rfl rfl ?_
      refine aw_c (v := -1) rfl (by decide) ?_
      refine aw_ist (ls' := [_, _, _, _, _, _, _]) rfl rfl ?_
      refine aw_c (v := nI 0) rfl (by decide) ?_
      refine aw_ist (ls' := [_, _, _, _, _, _, _]) rfl rfl ?_
      refine aw_loop (α := ((Nat → Int32) × (Nat → Int32) × Int32 × Int32 × (Nat → Int32) × (Nat → Int32)) × Option Value) (ll := fun i y => [some (.ref 121), some (.int (nI n)), some (.int (nI (wlS (S 0 * 3 + S 1) (wl T (lwf W) (S 0 * 3 + S 1) (S 4 * T.1 5) (S 2) i)))), some (.int (nI (bsA (bs (gbF T (lwf W) n (S 0 * 3 + S 1) (S 4 * T.1 5) (S 2)) tt i)))), some (.int (bs2 (bs (gbF T (lwf W) n (S 0 * 3 + S 1) (S 4 * T.1 5) (S 2)) tt i))), some (.int (nI i)), y.2]) (hh := fun i y => (mh g k y.1.1 y.1.2.1 y.1.2.2.1 y.1.2.2.2.1 y.1.2.2.2.2.1 y.1.2.2.2.2.2 pr pt cm bf bt)) (I := fun i y => True) (N := 6) (fun i y hi hI ih => ?_) (fun y hI => ?_) 0 ((v, pl, br, lo, c, ct), none) (Nat.zero_le _) trivial
      · skip
        obtain ⟨⟨v, pl, br, lo, c, ct⟩, l6⟩ := y
        dsimp only
        have ht1 := Nat.mul_le_mul s3 g5x
        have ht2 : i * T.1 5 ≤ 5 * 99 := Nat.mul_le_mul (by omega) g5x
        have hb : ∀ j, (gbF T (lwf W) n (S 0 * 3 + S 1) (S 4 * T.1 5) (S 2)) j < 2147483648 := fun j => by
          unfold gbF
          cases wl T (lwf W) (S 0 * 3 + S 1) (S 4 * T.1 5) (S 2) j with
          | none => exact Nat.lt_trans (Nat.zero_lt_one) (by decide)
          | some u => have := Fc_le (LW := lwf W) (gl := hm T) (r := none) hG0 (fun j z => nomatch z) n (S 4 * T.1 5 + j * T.1 5) (S 0 * 3 + S 1) u; show Fc _ _ _ _ _ _ _ _ < _; omega
        cases ew : (wl T (lwf W) (S 0 * 3 + S 1) (S 4 * T.1 5) (S 2) i) with
        | none =>
          show AW am_P _ _ _ _ [_, _, some (.int (nI 384)), _, _, _, _] _ _ _
          have eg : (gbF T (lwf W) n (S 0 * 3 + S 1) (S 4 * T.1 5) (S 2)) i = 0 := by unfold gbF; rw [ew]; rfl
          have ew2 : (wl T (lwf W) (S 0 * 3 + S 1) (S 4 * T.1 5) (S 2) (i + 1)) = none := by rw [wl, ew]; rfl
          refine aw rfl rfl ?_
          refine aw_c (v := nI 5) rfl (by decide) ?_
          refine aw_igtn rfl (fun c35 => by omega) (fun c35 => ?_)
          refine aw rfl rfl ?_
          refine aw_getf rfl mg_121 rfl ?_
          refine aw_c (v := nI 5) rfl (by decide) ?_
          refine aw_ialdE rfl mg_157 rfl (by omega) (by decide) n5 ?_
          refine aw rfl rfl ?_
          refine aw rfl rfl ?_
          refine aw_getf rfl mg_121 rfl ?_
          refine aw rfl rfl ?_
          refine aw_getfE rfl mg_121 rfl (congrArg Value.int m1) ?_
          refine aw_ialdE rfl mg_143 rfl (by omega) (by decide) mt ?_
          refine aw_muln rfl ?_
          refine aw_addn rfl ?_
          refine aw_ist (ls' := [_, _, _, _, _, _, _]) rfl rfl ?_
          refine aw rfl rfl ?_
          refine aw rfl rfl ?_
          refine aw_c (v := nI 0) rfl (by decide) ?_
          refine aw_c (v := -1) rfl (by decide) ?_
          refine aw rfl rfl ?_
          refine aw_cv (d1 := 7) (L1 := 183) rfl rfl mg_121 rfl rfl (by decide) (by decide) (Nat.le_of_ble_eq_true rfl) (c_X11_fillsFrom (r := none) (d := 0) hM0 hG0 (fun j z => nomatch z) hn (Nat.zero_le _) (by omega) (fun v pl br lo c ct hc => ?_))
          rw [show S 4 * T.1 5 + i * T.1 5 + 0 * T.1 5 = S 4 * T.1 5 + i * T.1 5 by omega, Nat.sub_zero] at hc
          refine aw rfl rfl ?_
          refine aw_getf rfl mg_121 rfl ?_
          refine aw rfl rfl ?_
          refine aw_ialdE rfl mg_159 rfl (by omega) (by decide) hc.2 ?_
          refine aw rfl rfl ?_
          refine aw_ile rfl (fun c76 => ?_) (fun c76 => ?_)
          · refine aw rfl rfl ?_
            refine aw_c (v := nI 384) rfl (by decide) ?_
            refine aw_ieq rfl (fun _ => ?_) (fun c => absurd (by decide) c)
            refine aw_incn (c := 1) (ls' := [_, _, _, _, _, _, _]) rfl rfl (by decide) rfl ?_
            refine aw rfl rfl ?_
            have e5 : (bs (gbF T (lwf W) n (S 0 * 3 + S 1) (S 4 * T.1 5) (S 2)) tt (i + 1)) = (bs (gbF T (lwf W) n (S 0 * 3 + S 1) (S 4 * T.1 5) (S 2)) tt i) := bs_no hb rfl (by rw [eg]; exact c76)
            have ih := ih ((v, pl, br, lo, c, ct), some (.int (nI (S 4 * T.1 5 + i * T.1 5)))) trivial
            rw [e5, ew2] at ih
            exact ih
          · refine aw rfl rfl ?_
            refine aw_getf rfl mg_121 rfl ?_
            refine aw rfl rfl ?_
            refine aw_ialdE rfl mg_159 rfl (by omega) (by decide) hc.2 ?_
            refine aw_ist (ls' := [_, _, _, _, _, _, _]) rfl rfl ?_
            refine aw rfl rfl ?_
            refine aw_ist (ls' := [_, _, _, _, _, _, _]) rfl rfl ?_
            refine aw rfl rfl ?_
            refine aw_c (v := nI 384) rfl (by decide) ?_
            refine aw_ieq rfl (fun _ => ?_) (fun c => absurd (by decide) c)
            refine aw_incn (c := 1) (ls' := [_, _, _, _, _, _, _]) rfl rfl (by decide) rfl ?_
            refine aw rfl rfl ?_
            have e5 : (bs (gbF T (lwf W) n (S 0 * 3 + S 1) (S 4 * T.1 5) (S 2)) tt (i + 1)) = some (i, 0) := by have := bs_yes (cn := tt) hb rfl (by rw [eg]; exact c76); rw [eg] at this; exact this
            have ih := ih ((v, pl, br, lo, c, ct), some (.int (nI (S 4 * T.1 5 + i * T.1 5)))) trivial
            rw [e5, ew2] at ih
            exact ih
        | some u =>
          show AW am_P _ _ _ _ [_, _, some (.int (nI (4 * (S 0 * 3 + S 1) + u))), _, _, _, _] _ _ _
          have hu := wl_lt _ _ ew
          have eg : (gbF T (lwf W) n (S 0 * 3 + S 1) (S 4 * T.1 5) (S 2)) i = Fc T (lwf W) none (hm T) n (S 4 * T.1 5 + i * T.1 5) (S 0 * 3 + S 1) u := by unfold gbF; rw [ew]; rfl
          have hFu := Fc_le (LW := lwf W) (gl := hm T) (r := none) hG0 (fun j z => nomatch z) n (S 4 * T.1 5 + i * T.1 5) (S 0 * 3 + S 1) u
          refine aw rfl rfl ?_
          refine aw_c (v := nI 5) rfl (by decide) ?_
          refine aw_igtn rfl (fun c35 => by omega) (fun c35 => ?_)
          refine aw rfl rfl ?_
          refine aw_getf rfl mg_121 rfl ?_
          refine aw_c (v := nI 5) rfl (by decide) ?_
          refine aw_ialdE rfl mg_157 rfl (by omega) (by decide) n5 ?_
          refine aw rfl rfl ?_
          refine aw rfl rfl ?_
          refine aw_getf rfl mg_121 rfl ?_
          refine aw rfl rfl ?_
          refine aw_getfE rfl mg_121 rfl (congrArg Value.int m1) ?_
          refine aw_ialdE rfl mg_143 rfl (by omega) (by decide) mt ?_
          refine aw_muln rfl ?_
          refine aw_addn rfl ?_
          refine aw_ist (ls' := [_, _, _, _, _, _, _]) rfl rfl ?_
          refine aw rfl rfl ?_
          refine aw rfl rfl ?_
          refine aw_c (v := nI 0) rfl (by decide) ?_
          refine aw_c (v := -1) rfl (by decide) ?_
          refine aw rfl rfl ?_
          refine aw_cv (d1 := 7) (L1 := 183) rfl rfl mg_121 rfl rfl (by decide) (by decide) (Nat.le_of_ble_eq_true rfl) (c_X11_fillsFrom (r := none) (d := 0) hM0 hG0 (fun j z => nomatch z) hn (Nat.zero_le _) (by omega) (fun v pl br lo c ct hc => ?_))
          rw [show S 4 * T.1 5 + i * T.1 5 + 0 * T.1 5 = S 4 * T.1 5 + i * T.1 5 by omega, Nat.sub_zero] at hc
          refine aw rfl rfl ?_
          refine aw_getf rfl mg_121 rfl ?_
          refine aw rfl rfl ?_
          refine aw_ialdE rfl mg_159 rfl (by omega) (by decide) (hc.1 _ _ s0 (by omega)) ?_
          refine aw rfl rfl ?_
          refine aw_ile rfl (fun c76 => ?_) (fun c76 => ?_)
          · refine aw rfl rfl ?_
            refine aw_c (v := nI 384) rfl (by decide) ?_
            refine aw_ieqn rfl (fun c94 => by omega) (fun c94 => ?_)
            refine aw rfl rfl ?_
            refine aw rfl rfl ?_
            refine aw rfl rfl ?_
            refine aw_cv (d1 := 3) (L1 := 75) rfl rfl mg_121 rfl rfl (by decide) (by decide) (Nat.le_of_ble_eq_true rfl) (c_X11_waited hM0 hG0 s0 (by omega) (fun hw v pl br => ?_) (fun hw v pl br => ?_))
            · refine aw_ist (ls' := [_, _, _, _, _, _, _]) rfl rfl ?_
              refine aw_incn (c := 1) (ls' := [_, _, _, _, _, _, _]) rfl rfl (by decide) rfl ?_
              refine aw rfl rfl ?_
              have e5 : (bs (gbF T (lwf W) n (S 0 * 3 + S 1) (S 4 * T.1 5) (S 2)) tt (i + 1)) = (bs (gbF T (lwf W) n (S 0 * 3 + S 1) (S 4 * T.1 5) (S 2)) tt i) := bs_no hb rfl (by rw [eg]; exact c76)
              have ew2 : (wl T (lwf W) (S 0 * 3 + S 1) (S 4 * T.1 5) (S 2) (i + 1)) = (if u = 0 then none else some (u - 1)) := by rw [wl, ew, decide_eq_true hw]; rfl
              have ih := ih ((v, pl, br, lo, c, ct), some (.int (nI (S 4 * T.1 5 + i * T.1 5)))) trivial
              rw [e5, ew2] at ih
              rw [wlS_lsg] at ih
              exact ih
            · refine aw_ist (ls' := [_, _, _, _, _, _, _]) rfl rfl ?_
              refine aw_incn (c := 1) (ls' := [_, _, _, _, _, _, _]) rfl rfl (by decide) rfl ?_
              refine aw rfl rfl ?_
              have e5 : (bs (gbF T (lwf W) n (S 0 * 3 + S 1) (S 4 * T.1 5) (S 2)) tt (i + 1)) = (bs (gbF T (lwf W) n (S 0 * 3 + S 1) (S 4 * T.1 5) (S 2)) tt i) := bs_no hb rfl (by rw [eg]; exact c76)
              have ew2 : (wl T (lwf W) (S 0 * 3 + S 1) (S 4 * T.1 5) (S 2) (i + 1)) = some u := by rw [wl, ew, decide_eq_false (fun y => n_m1 (by omega) (hw.symm.trans y))]; rfl
              have ih := ih ((v, pl, br, lo, c, ct), some (.int (nI (S 4 * T.1 5 + i * T.1 5)))) trivial
              rw [e5, ew2] at ih
              exact ih
          · refine aw rfl rfl ?_
            refine aw_getf rfl mg_121 rfl ?_
            refine aw rfl rfl ?_
            refine aw_ialdE rfl mg_159 rfl (by omega) (by decide) (hc.1 _ _ s0 (by omega)) ?_
            refine aw_ist (ls' := [_, _, _, _, _, _, _]) rfl rfl ?_
            refine aw rfl rfl ?_
            refine aw_ist (ls' := [_, _, _, _, _, _, _]) rfl rfl ?_
            refine aw rfl rfl ?_
            refine aw_c (v := nI 384) rfl (by decide) ?_
            refine aw_ieqn rfl (fun c94 => by omega) (fun c94 => ?_)
            refine aw rfl rfl ?_
            refine aw rfl rfl ?_
            refine aw rfl rfl ?_
            refine aw_cv (d1 := 3) (L1 := 75) rfl rfl mg_121 rfl rfl (by decide) (by decide) (Nat.le_of_ble_eq_true rfl) (c_X11_waited hM0 hG0 s0 (by omega) (fun hw v pl br => ?_) (fun hw v pl br => ?_))
            · refine aw_ist (ls' := [_, _, _, _, _, _, _]) rfl rfl ?_
              refine aw_incn (c := 1) (ls' := [_, _, _, _, _, _, _]) rfl rfl (by decide) rfl ?_
              refine aw rfl rfl ?_
              have e5 : (bs (gbF T (lwf W) n (S 0 * 3 + S 1) (S 4 * T.1 5) (S 2)) tt (i + 1)) = some (i, Fc T (lwf W) none (hm T) n (S 4 * T.1 5 + i * T.1 5) (S 0 * 3 + S 1) u) := by have := bs_yes (cn := tt) hb rfl (by rw [eg]; exact c76); rw [eg] at this; exact this
              have ew2 : (wl T (lwf W) (S 0 * 3 + S 1) (S 4 * T.1 5) (S 2) (i + 1)) = (if u = 0 then none else some (u - 1)) := by rw [wl, ew, decide_eq_true hw]; rfl
              have ih := ih ((v, pl, br, lo, c, ct), some (.int (nI (S 4 * T.1 5 + i * T.1 5)))) trivial
              rw [e5, ew2] at ih
              rw [wlS_lsg] at ih
              exact ih
            · refine aw_ist (ls' := [_, _, _, _, _, _, _]) rfl rfl ?_
              refine aw_incn (c := 1) (ls' := [_, _, _, _, _, _, _]) rfl rfl (by decide) rfl ?_
              refine aw rfl rfl ?_
              have e5 : (bs (gbF T (lwf W) n (S 0 * 3 + S 1) (S 4 * T.1 5) (S 2)) tt (i + 1)) = some (i, Fc T (lwf W) none (hm T) n (S 4 * T.1 5 + i * T.1 5) (S 0 * 3 + S 1) u) := by have := bs_yes (cn := tt) hb rfl (by rw [eg]; exact c76); rw [eg] at this; exact this
              have ew2 : (wl T (lwf W) (S 0 * 3 + S 1) (S 4 * T.1 5) (S 2) (i + 1)) = some u := by rw [wl, ew, decide_eq_false (fun y => n_m1 (by omega) (hw.symm.trans y))]; rfl
              have ih := ih ((v, pl, br, lo, c, ct), some (.int (nI (S 4 * T.1 5 + i * T.1 5)))) trivial
              rw [e5, ew2] at ih
              exact ih
      · skip
        refine aw rfl rfl ?_
        refine aw_c (v := nI 5) rfl (by decide) ?_
        refine aw_igt rfl (fun _ => ?_) (fun c => absurd (by decide) c)
        refine aw rfl rfl ?_
        exact aw_iret rfl rfl (q _ _ _ _ _ _)
  · refine aw_ne rfl (fun c => absurd (by decide) c) (fun _ => ?_)
    refine aw_c (v := -1) rfl (by decide) ?_
    exact aw_iret rfl rfl (by rw [sp_out p] at q; exact q _ _ _ _ _ _)
theorem c_X11_trap {Q : Option Value → am_H → Prop} (hM : MR k lv T W) (hG : GS T) (hN : NR T (k.2.1 53) S) (hS : SG T S) {x : Int32} (q : ∀ v pl br lo c ct, Q (some (.int (a_trap T (lwf W) S x))) (mh g k v pl br lo c ct pr pt cm bf bt)) : AC am_P 9 229 277 [.ref 121, .int x] (mh g k v pl br lo c ct pr pt cm bf bt) Q := by
  refine AC.of (ls := [_, _, _, _, _, _, _, _]) rfl ?_
  have hM0 := hM
  have hG0 := hG
  obtain ⟨m0, m1, mr, mw, mf, mk, mli, mt, ms, msq, moc, mwy, msp, mlw⟩ := hM
  obtain ⟨⟨g0, g0x⟩, ⟨g1, g1x⟩, ⟨g2, g2x⟩, ⟨g3, g3x⟩, g4, ⟨g5, g5x⟩, g6, gsq, goc, gwt, gsp, gfr⟩ := hG
  have hN0 := hN
  have hS0 := hS
  obtain ⟨n0, n1, n2, n3, n4, n5, n6, n7, n8⟩ := hN
  obtain ⟨s0, s1, s2, s3, s4, s5, s6⟩ := hS
  have hl96 := s0.1
  unfold a_trap at q
  refine aw rfl rfl ?_
  refine aw_cs (d1 := 1) (L1 := 22) rfl rfl (by decide) (by decide) (Nat.le_of_ble_eq_true rfl) (c_X11_isLong (fun n hn e => ?_) (fun p => ?_))
  · refine aw_ne rfl (fun _ => ?_) (fun c => absurd c (by decide))
    subst e
    rw [sp_in (Nat.zero_le _) hn (by decide)] at q
    have h6 := p6_le hn
    have hF : ∀ l w, Fc T (lwf W) none (hm T) n (S 4 * T.1 5) l w ≤ 6 ^ n := Fc_le (r := none) hG0 (fun j z => nomatch z) _ _
    have hFx := hF (S 0 * 3 + S 1) (S 2)
    have h6p := p6_pos n
    refine aw rfl rfl ?_
    refine aw rfl rfl ?_
    refine aw_cv (d1 := 8) (L1 := 208) rfl rfl mg_121 rfl rfl (by decide) (by decide) (Nat.le_of_ble_eq_true rfl) (c_X11_fills hM0 hG0 hn (by have := Nat.mul_le_mul s3 g5x; omega) n5 (fun v pl br lo c ct hc => ?_))
    refine aw_c (v := nI 0) rfl (by decide) ?_
    refine aw_ist (ls' := [_, _, _, _, _, _, _, _]) rfl rfl ?_
    refine aw_c (v := nI 0) rfl (by decide) ?_
    refine aw_ist (ls' := [_, _, _, _, _, _, _, _]) rfl rfl ?_
    refine aw_loop (α := Option Value × Option Value × Option Value × Option Value) (ll := fun i y => [some (.ref 121), some (.int (nI n)), some (.int (nI (ctN (trp T (Fc T (lwf W) none (hm T) n (S 4 * T.1 5)) (S 2)) (i * 8)))), some (.int (nI i)), y.1, y.2.1, y.2.2.1, y.2.2.2]) (hh := fun i y => (mh g k v pl br lo c ct pr pt cm bf bt)) (I := fun i y => True) (N := T.1 1) (fun i y hi hI ihi => ?_) (fun y hI => ?_) 0 (none, none, none, none) (Nat.zero_le _) trivial
    · skip
      obtain ⟨y1, y2, y3, y4⟩ := y
      dsimp only
      refine aw rfl rfl ?_
      refine aw rfl rfl ?_
      refine aw_getf rfl mg_121 rfl ?_
      refine aw rfl rfl ?_
      refine aw_getfE rfl mg_121 rfl (congrArg Value.int m1) ?_
      refine aw_ialdE rfl mg_130 rfl (by omega) (by decide) mr ?_
      refine aw_igen rfl (fun c28 => by omega) (fun c28 => ?_)
      refine aw_c (v := nI 0) rfl (by decide) ?_
      refine aw_ist (ls' := [_, _, _, _, _, _, _, _]) rfl rfl ?_
      rw [show i * 8 = i * 8 + 0 by rfl]
      refine aw_loop (α := Option Value × Option Value × Option Value) (ll := fun j y => [some (.ref 121), some (.int (nI n)), some (.int (nI (ctN (trp T (Fc T (lwf W) none (hm T) n (S 4 * T.1 5)) (S 2)) (i * 8 + j)))), some (.int (nI i)), some (.int (nI j)), y.1, y.2.1, y.2.2]) (hh := fun j y => (mh g k v pl br lo c ct pr pt cm bf bt)) (I := fun j y => True) (N := T.1 0) (fun j y hj hIj ihj => ?_) (fun y hI => ?_) 0 (y2, y3, y4) (Nat.zero_le _) trivial
      · skip
        obtain ⟨y1, y2, y3⟩ := y
        dsimp only
        have hij : i * 8 + j < 32 := by omega
        have hct := ctN_le (P := (trp T (Fc T (lwf W) none (hm T) n (S 4 * T.1 5)) (S 2))) (i * 8 + j)
        refine aw rfl rfl ?_
        refine aw rfl rfl ?_
        refine aw_getf rfl mg_121 rfl ?_
        refine aw rfl rfl ?_
        refine aw_getfE rfl mg_121 rfl (congrArg Value.int m1) ?_
        refine aw_ialdE rfl mg_131 rfl (by omega) (by decide) mw ?_
        refine aw_igen rfl (fun c45 => by omega) (fun c45 => ?_)
        refine aw rfl rfl ?_
        refine aw rfl rfl ?_
        refine aw_c (v := nI 0) rfl (by decide) ?_
        refine aw rfl rfl ?_
        refine aw_getf rfl mg_121 rfl ?_
        refine aw_c (v := nI 3) rfl (by decide) ?_
        refine aw_ialdE rfl mg_157 rfl (by omega) (by decide) n3 ?_
        refine aw_cs (d1 := 0) (L1 := 0) rfl rfl (by decide) (by decide) (Nat.le_of_ble_eq_true rfl) (c_X11_numberOf ?_)
        rw [show ((8 * i + j) * 3 + 0) * 4 + S 2 = 4 * ((i * 8 + j) * 3) + S 2 by omega]
        refine aw_ist (ls' := [_, _, _, _, _, _, _, _]) rfl rfl ?_
        refine aw rfl rfl ?_
        refine aw rfl rfl ?_
        refine aw_cv (d1 := 2) (L1 := 43) rfl rfl mg_121 rfl rfl (by decide) (by decide) (Nat.le_of_ble_eq_true rfl) (c_X11_isSquare hM0 hG0 (by omega) (by omega) (fun hs => ?_) (fun hs => ?_))
        · refine aw_ne rfl (fun _ => ?_) (fun c => absurd c (by decide))
          refine aw_c (v := nI 0) rfl (by decide) ?_
          have hlk := hs
          refine aw_ist (ls' := [_, _, _, _, _, _, _, _]) rfl rfl ?_
          refine aw_c (v := nI 0) rfl (by decide) ?_
          refine aw_ist (ls' := [_, _, _, _, _, _, _, _]) rfl rfl ?_
          have hlie := hs
          have hlk := (lkB_iff hG0 hij).mpr hs
          refine (show ∀ z : Bool, allz (fun f => (Fc T (lwf W) none (hm T) n (S 4 * T.1 5)) ((i * 8 + j) * 3 + f) (S 2)) 0 = z → AW am_P 9 229 277 82 [some (.ref 121), some (.int (nI n)), some (.int (nI (ctN (trp T (Fc T (lwf W) none (hm T) n (S 4 * T.1 5)) (S 2)) (i * 8 + j)))), some (.int (nI i)), some (.int (nI j)), some (.int (nI (4 * ((i * 8 + j) * 3) + S 2))), some (.int (bI (!z))), some (.int (nI 0))] [] (mh g k v pl br lo c ct pr pt cm bf bt) Q from fun z hz => ?_) true rfl
          subst hz
          refine aw_loop (α := Unit) (ll := fun f y => [some (.ref 121), some (.int (nI n)), some (.int (nI (ctN (trp T (Fc T (lwf W) none (hm T) n (S 4 * T.1 5)) (S 2)) (i * 8 + j)))), some (.int (nI i)), some (.int (nI j)), some (.int (nI (4 * ((i * 8 + j) * 3) + S 2))), some (.int (bI (!(allz (fun f => (Fc T (lwf W) none (hm T) n (S 4 * T.1 5)) ((i * 8 + j) * 3 + f) (S 2)) f)))), some (.int (nI f))]) (hh := fun f y => (mh g k v pl br lo c ct pr pt cm bf bt)) (I := fun f y => True) (N := T.1 2) (fun f y hif hIf ihf => ?_) (fun y hI => ?_) 0 () (Nat.zero_le _) trivial
          · skip
            have hlf : lieOK T ((i * 8 + j) * 3 + f) := lie_face (s := i * 8 + j) (f := 0) hlie (by decide) hif g2x
            have hlf96 := hlf.1
            have hFf := hF ((i * 8 + j) * 3 + f) (S 2)
            cases ez : allz (fun f => (Fc T (lwf W) none (hm T) n (S 4 * T.1 5)) ((i * 8 + j) * 3 + f) (S 2)) f with
            | true =>
              show AW am_P _ _ _ _ [_, _, _, _, _, _, some (.int (nI 0)), _] _ _ _
              refine aw rfl rfl ?_
              refine aw rfl rfl ?_
              refine aw_getf rfl mg_121 rfl ?_
              refine aw rfl rfl ?_
              refine aw_getfE rfl mg_121 rfl (congrArg Value.int m1) ?_
              refine aw_ialdE rfl mg_133 rfl (by omega) (by decide) mf ?_
              refine aw_igen rfl (fun c93 => by omega) (fun c93 => ?_)
              refine aw rfl rfl ?_
              refine aw_ne rfl (fun c => absurd (by decide) c) (fun _ => ?_)
              refine aw rfl rfl ?_
              refine aw_getf rfl mg_121 rfl ?_
              refine aw rfl rfl ?_
              refine aw_c (v := nI 4) rfl (by decide) ?_
              refine aw rfl rfl ?_
              refine aw_muln rfl ?_
              refine aw_addn rfl ?_
              rw [show 4 * ((i * 8 + j) * 3) + S 2 + 4 * f = 4 * ((i * 8 + j) * 3 + f) + S 2 by omega]
              refine aw_ialdE rfl mg_159 rfl (by omega) (by decide) (hc.1 _ _ hlf (by omega)) ?_
              refine aw_len rfl (fun c113 => ?_) (fun c113 => ?_)
              · refine aw_c (v := nI 0) rfl (by decide) ?_
                refine aw_ist (ls' := [_, _, _, _, _, _, _, _]) rfl rfl ?_
                refine aw_incn (c := 1) (ls' := [_, _, _, _, _, _, _, _]) rfl rfl (by decide) rfl ?_
                refine aw rfl rfl ?_
                have e9 : allz (fun f => (Fc T (lwf W) none (hm T) n (S 4 * T.1 5)) ((i * 8 + j) * 3 + f) (S 2)) (f + 1) = true := by rw [allz, ez, decide_eq_true c113]; rfl
                have ihf := ihf () trivial
                rw [e9] at ihf
                exact ihf
              · refine aw_c (v := nI 1) rfl (by decide) ?_
                refine aw rfl rfl ?_
                refine aw_ist (ls' := [_, _, _, _, _, _, _, _]) rfl rfl ?_
                refine aw_incn (c := 1) (ls' := [_, _, _, _, _, _, _, _]) rfl rfl (by decide) rfl ?_
                refine aw rfl rfl ?_
                have e9 : allz (fun f => (Fc T (lwf W) none (hm T) n (S 4 * T.1 5)) ((i * 8 + j) * 3 + f) (S 2)) (f + 1) = false := by rw [allz, ez, decide_eq_false (Nat.pos_iff_ne_zero.mp c113)]; rfl
                have ihf := ihf () trivial
                rw [e9] at ihf
                exact ihf
            | false =>
              show AW am_P _ _ _ _ [_, _, _, _, _, _, some (.int (nI 1)), _] _ _ _
              refine aw rfl rfl ?_
              refine aw rfl rfl ?_
              refine aw_getf rfl mg_121 rfl ?_
              refine aw rfl rfl ?_
              refine aw_getfE rfl mg_121 rfl (congrArg Value.int m1) ?_
              refine aw_ialdE rfl mg_133 rfl (by omega) (by decide) mf ?_
              refine aw_igen rfl (fun c93 => by omega) (fun c93 => ?_)
              refine aw rfl rfl ?_
              refine aw_ne rfl (fun _ => ?_) (fun c => absurd c (by decide))
              refine aw_c (v := nI 1) rfl (by decide) ?_
              refine aw rfl rfl ?_
              refine aw_ist (ls' := [_, _, _, _, _, _, _, _]) rfl rfl ?_
              refine aw_incn (c := 1) (ls' := [_, _, _, _, _, _, _, _]) rfl rfl (by decide) rfl ?_
              refine aw rfl rfl ?_
              have e9 : allz (fun f => (Fc T (lwf W) none (hm T) n (S 4 * T.1 5)) ((i * 8 + j) * 3 + f) (S 2)) (f + 1) = false := by rw [allz, ez]; rfl
              have ihf := ihf () trivial
              rw [e9] at ihf
              exact ihf
          · skip
            cases ez : allz (fun f => (Fc T (lwf W) none (hm T) n (S 4 * T.1 5)) ((i * 8 + j) * 3 + f) (S 2)) (T.1 2) with
            | true =>
              show AW am_P _ _ _ _ [_, _, _, _, _, _, some (.int (nI 0)), _] _ _ _
              refine aw rfl rfl ?_
              refine aw rfl rfl ?_
              refine aw_getf rfl mg_121 rfl ?_
              refine aw rfl rfl ?_
              refine aw_getfE rfl mg_121 rfl (congrArg Value.int m1) ?_
              refine aw_ialdE rfl mg_133 rfl (by omega) (by decide) mf ?_
              refine aw_igen rfl (fun c93 => ?_) (fun c93 => by omega)
              refine aw rfl rfl ?_
              refine aw_ne rfl (fun c => absurd (by decide) c) (fun _ => ?_)
              refine aw_incn (c := 1) (ls' := [_, _, _, _, _, _, _, _]) rfl rfl (by decide) rfl ?_
              refine aw_incn (c := 1) (ls' := [_, _, _, _, _, _, _, _]) rfl rfl (by decide) rfl ?_
              refine aw rfl rfl ?_
              have e9 : ctN (trp T (Fc T (lwf W) none (hm T) n (S 4 * T.1 5)) (S 2)) (i * 8 + (j + 1)) = ctN (trp T (Fc T (lwf W) none (hm T) n (S 4 * T.1 5)) (S 2)) (i * 8 + j) + 1 := by rw [show i * 8 + (j + 1) = i * 8 + j + 1 by omega]; show ctN _ (i * 8 + j) + (bif trp T _ _ (i * 8 + j) then 1 else 0) = _; unfold trp; rw [hlk, ez]; rfl
              have ihj := ihj (some (.int (nI (4 * ((i * 8 + j) * 3) + S 2))), some (.int (nI 0)), some (.int (nI (T.1 2)))) trivial
              rw [e9] at ihj
              exact ihj
            | false =>
              show AW am_P _ _ _ _ [_, _, _, _, _, _, some (.int (nI 1)), _] _ _ _
              refine aw rfl rfl ?_
              refine aw rfl rfl ?_
              refine aw_getf rfl mg_121 rfl ?_
              refine aw rfl rfl ?_
              refine aw_getfE rfl mg_121 rfl (congrArg Value.int m1) ?_
              refine aw_ialdE rfl mg_133 rfl (by omega) (by decide) mf ?_
              refine aw_igen rfl (fun c93 => ?_) (fun c93 => by omega)
              refine aw rfl rfl ?_
              refine aw_ne rfl (fun _ => ?_) (fun c => absurd c (by decide))
              refine aw_incn (c := 1) (ls' := [_, _, _, _, _, _, _, _]) rfl rfl (by decide) rfl ?_
              refine aw rfl rfl ?_
              have e9 : ctN (trp T (Fc T (lwf W) none (hm T) n (S 4 * T.1 5)) (S 2)) (i * 8 + (j + 1)) = ctN (trp T (Fc T (lwf W) none (hm T) n (S 4 * T.1 5)) (S 2)) (i * 8 + j) + 0 := by rw [show i * 8 + (j + 1) = i * 8 + j + 1 by omega]; show ctN _ (i * 8 + j) + (bif trp T _ _ (i * 8 + j) then 1 else 0) = _; unfold trp; rw [hlk, ez]; rfl
              have ihj := ihj (some (.int (nI (4 * ((i * 8 + j) * 3) + S 2))), some (.int (nI 1)), some (.int (nI (T.1 2)))) trivial
              rw [e9] at ihj
              exact ihj
        · refine aw_ne rfl (fun c => absurd (by decide) c) (fun _ => ?_)
          refine aw_c (v := nI 1) rfl (by decide) ?_
          refine aw rfl rfl ?_
          have hlk := hs
          refine aw_ist (ls' := [_, _, _, _, _, _, _, _]) rfl rfl ?_
          refine aw_c (v := nI 0) rfl (by decide) ?_
          refine aw_ist (ls' := [_, _, _, _, _, _, _, _]) rfl rfl ?_
          have hlk : lkB T (i * 8 + j) = false := Bool.eq_false_iff.mpr (fun z => hs ((lkB_iff hG0 hij).mp z))
          refine aw_loop (α := Unit) (ll := fun f y => [some (.ref 121), some (.int (nI n)), some (.int (nI (ctN (trp T (Fc T (lwf W) none (hm T) n (S 4 * T.1 5)) (S 2)) (i * 8 + j)))), some (.int (nI i)), some (.int (nI j)), some (.int (nI (4 * ((i * 8 + j) * 3) + S 2))), some (.int (nI 1)), some (.int (nI f))]) (hh := fun f y => (mh g k v pl br lo c ct pr pt cm bf bt)) (I := fun f y => True) (N := T.1 2) (fun f y hif hIf ihf => ?_) (fun y hI => ?_) 0 () (Nat.zero_le _) trivial
          · skip
            refine aw rfl rfl ?_
            refine aw rfl rfl ?_
            refine aw_getf rfl mg_121 rfl ?_
            refine aw rfl rfl ?_
            refine aw_getfE rfl mg_121 rfl (congrArg Value.int m1) ?_
            refine aw_ialdE rfl mg_133 rfl (by omega) (by decide) mf ?_
            refine aw_igen rfl (fun c93 => by omega) (fun c93 => ?_)
            refine aw rfl rfl ?_
            refine aw_ne rfl (fun _ => ?_) (fun c => absurd c (by decide))
            refine aw_c (v := nI 1) rfl (by decide) ?_
            refine aw rfl rfl ?_
            refine aw_ist (ls' := [_, _, _, _, _, _, _, _]) rfl rfl ?_
            refine aw_incn (c := 1) (ls' := [_, _, _, _, _, _, _, _]) rfl rfl (by decide) rfl ?_
            refine aw rfl rfl ?_
            exact ihf () trivial
          · skip
            refine aw rfl rfl ?_
            refine aw rfl rfl ?_
            refine aw_getf rfl mg_121 rfl ?_
            refine aw rfl rfl ?_
            refine aw_getfE rfl mg_121 rfl (congrArg Value.int m1) ?_
            refine aw_ialdE rfl mg_133 rfl (by omega) (by decide) mf ?_
            refine aw_igen rfl (fun c93 => ?_) (fun c93 => by omega)
            refine aw rfl rfl ?_
            refine aw_ne rfl (fun _ => ?_) (fun c => absurd c (by decide))
            refine aw_incn (c := 1) (ls' := [_, _, _, _, _, _, _, _]) rfl rfl (by decide) rfl ?_
            refine aw rfl rfl ?_
            have e9 : ctN (trp T (Fc T (lwf W) none (hm T) n (S 4 * T.1 5)) (S 2)) (i * 8 + (j + 1)) = ctN (trp T (Fc T (lwf W) none (hm T) n (S 4 * T.1 5)) (S 2)) (i * 8 + j) := by rw [show i * 8 + (j + 1) = i * 8 + j + 1 by omega]; show ctN _ (i * 8 + j) + (bif trp T _ _ (i * 8 + j) then 1 else 0) = _; unfold trp; rw [hlk]; rfl
            have ihj := ihj (some (.int (nI (4 * ((i * 8 + j) * 3) + S 2))), some (.int (nI 1)), some (.int (nI (T.1 2)))) trivial
            rw [e9] at ihj
            exact ihj
      · skip
        obtain ⟨y1, y2, y3⟩ := y
        dsimp only
        refine aw rfl rfl ?_
        refine aw rfl rfl ?_
        refine aw_getf rfl mg_121 rfl ?_
        refine aw rfl rfl ?_
        refine aw_getfE rfl mg_121 rfl (congrArg Value.int m1) ?_
        refine aw_ialdE rfl mg_131 rfl (by omega) (by decide) mw ?_
        refine aw_igen rfl (fun c45 => ?_) (fun c45 => by omega)
        refine aw_incn (c := 1) (ls' := [_, _, _, _, _, _, _, _]) rfl rfl (by decide) rfl ?_
        refine aw rfl rfl ?_
        have e9 : ctN (trp T (Fc T (lwf W) none (hm T) n (S 4 * T.1 5)) (S 2)) ((i + 1) * 8) = ctN (trp T (Fc T (lwf W) none (hm T) n (S 4 * T.1 5)) (S 2)) (i * 8 + T.1 0) := by
          have := ctN_z (P := (trp T (Fc T (lwf W) none (hm T) n (S 4 * T.1 5)) (S 2))) (a := i * 8 + T.1 0) (8 - T.1 0) (fun z h1 h2 => trp_out (Or.inl (by omega)))
          rw [show i * 8 + T.1 0 + (8 - T.1 0) = (i + 1) * 8 by omega] at this
          exact this
        have ihi := ihi (some (.int (nI (T.1 0))), y1, y2, y3) trivial
        rw [e9] at ihi
        exact ihi
    · skip
      refine aw rfl rfl ?_
      refine aw rfl rfl ?_
      refine aw_getf rfl mg_121 rfl ?_
      refine aw rfl rfl ?_
      refine aw_getfE rfl mg_121 rfl (congrArg Value.int m1) ?_
      refine aw_ialdE rfl mg_130 rfl (by omega) (by decide) mr ?_
      refine aw_igen rfl (fun c28 => ?_) (fun c28 => by omega)
      refine aw rfl rfl ?_
      exact aw_iret rfl rfl (by have := ctN_z (P := (trp T (Fc T (lwf W) none (hm T) n (S 4 * T.1 5)) (S 2))) (a := T.1 1 * 8) (32 - T.1 1 * 8) (fun z h1 h2 => trp_out (Or.inr (by omega))); rw [show T.1 1 * 8 + (32 - T.1 1 * 8) = 32 by omega] at this; rw [this] at q; exact q _ _ _ _ _ _)
  · refine aw_ne rfl (fun c => absurd (by decide) c) (fun _ => ?_)
    refine aw_c (v := -1) rfl (by decide) ?_
    exact aw_iret rfl rfl (by rw [sp_out p] at q; exact q _ _ _ _ _ _)
end M1
end
section
/-! ===== the reference: comes ===== -/
def CE (c : Nat → Int32) (D : Nat → Nat) : Prop := ∀ s, s < 385 → c s = nI (D s)
def VS (F : Nat → Nat → Nat) (s : Nat) : Nat := if s = 384 then 0 else F (s / 4) (s % 4)
def pV (E : Nat → Nat) (F : Nat → Nat → Nat) : Nat := sm (fun s => E s * VS F s) 385
def SU (T : Sd) (E : Nat → Nat) : Prop := ∀ s, s < 384 → ¬ lieOK T (s / 4) → E s = 0
def SP (T : Sd) (F : Nat → Nat → Nat) (E E' : Nat → Nat) (x y : Nat) : Prop := pV E' F = pV E F + y ∧ sm E' 385 = sm E 385 + x ∧ (SU T E → SU T E')
theorem sm_congr {f g : Nat → Nat} : ∀ n, (∀ i, i < n → f i = g i) → sm f n = sm g n := by
  intro n
  induction n with
  | zero => intro _; rfl
  | succ n ih => intro h; show sm f n + f n = sm g n + g n; rw [ih (fun i hi => h i (by omega)), h n (by omega)]
theorem vu_at {α : Type} {f : Nat → α} {k : Nat} {x : α} : va_up f k x k = x := by unfold va_up; exact if_pos rfl
theorem vu_ot {α : Type} {f : Nat → α} {k j : Nat} {x : α} (h : ¬ j = k) : va_up f k x j = f j := by unfold va_up; exact if_neg h
theorem sm_up {E V : Nat → Nat} {m x : Nat} : ∀ n, m < n → sm (fun s => va_up E m (E m + x) s * V s) n = sm (fun s => E s * V s) n + x * V m := by
  intro n
  induction n with
  | zero => intro h; omega
  | succ n ih =>
    intro h
    show sm (fun s => va_up E m (E m + x) s * V s) n + va_up E m (E m + x) n * V n = sm (fun s => E s * V s) n + E n * V n + x * V m
    by_cases e : m = n
    · subst e
      rw [vu_at, sm_congr (g := fun s => E s * V s) m (fun i hi => by show va_up E m (E m + x) i * V i = E i * V i; rw [vu_ot (by omega)]), Nat.add_mul]
      omega
    · rw [ih (by omega), vu_ot (fun z => e z.symm)]
      omega
theorem sm_one {E : Nat → Nat} : ∀ n, sm (fun s => E s * 1) n = sm E n := fun n => sm_congr n (fun i _ => Nat.mul_one _)
theorem sp_up {T : Sd} {F : Nat → Nat → Nat} {E : Nat → Nat} {m x : Nat} (hm : m < 385) (hs : m = 384 ∨ lieOK T (m / 4)) : SP T F E (va_up E m (E m + x)) x (x * VS F m) := by
  refine ⟨sm_up _ hm, ?_, fun h s hs1 hs2 => ?_⟩
  · have := sm_up (E := E) (V := fun _ => 1) (m := m) (x := x) 385 hm
    rw [sm_one, sm_one, Nat.mul_one] at this
    exact this
  · rw [vu_ot (fun z => ?_)]
    · exact h s hs1 hs2
    · subst z
      rcases hs with z | z
      · omega
      · exact hs2 z
theorem sp_tr {T : Sd} {F : Nat → Nat → Nat} {E E1 E2 : Nat → Nat} {x y x1 y1 : Nat} (h : SP T F E E1 x y) (h1 : SP T F E1 E2 x1 y1) : SP T F E E2 (x + x1) (y + y1) := ⟨by rw [h1.1, h.1, Nat.add_assoc], by rw [h1.2.1, h.2.1, Nat.add_assoc], fun z => h1.2.2 (h.2.2 z)⟩
theorem sp_rf {T : Sd} {F : Nat → Nat → Nat} {E : Nat → Nat} : SP T F E E 0 0 := ⟨(Nat.add_zero _).symm, (Nat.add_zero _).symm, id⟩
theorem CE.up {c : Nat → Int32} {D : Nat → Nat} {m x : Nat} (h : CE c D) : CE (upd c m (nI x)) (va_up D m x) := by
  intro s hs
  by_cases e : s = m
  · subst e; rw [vu_at]; unfold upd; exact if_pos rfl
  · rw [vu_ot e]; unfold upd; rw [if_neg e]; exact h s hs
theorem vs_lsg {F : Nat → Nat → Nat} {l w : Nat} (hl : l < 96) (hw : w < 4) : VS F (lsg l w) = if w = 0 then 0 else F l (w - 1) := by
  unfold VS lsg
  by_cases h : w = 0
  · rw [if_pos h, if_pos h, if_pos rfl]
  · rw [if_neg h, if_neg h, if_neg (by omega), show (4 * l + (w - 1)) / 4 = l by omega, show (4 * l + (w - 1)) % 4 = w - 1 by omega]
theorem vs_on {F : Nat → Nat → Nat} {l w : Nat} (hl : l < 96) (hw : w < 4) : VS F (4 * l + w) = F l w := by
  unfold VS
  rw [if_neg (by omega), show (4 * l + w) / 4 = l by omega, show (4 * l + w) % 4 = w by omega]
theorem lsg_ok {T : Sd} {l w : Nat} (hl : lieOK T l) (hw : w < 4) : lsg l w = 384 ∨ lieOK T (lsg l w / 4) := by
  unfold lsg
  by_cases h : w = 0
  · rw [if_pos h]; exact Or.inl rfl
  · rw [if_neg h, show (4 * l + (w - 1)) / 4 = l by omega]; exact Or.inr hl
theorem on_ok {T : Sd} {l w : Nat} (hl : lieOK T l) (hw : w < 4) : 4 * l + w = 384 ∨ lieOK T ((4 * l + w) / 4) := by
  rw [show (4 * l + w) / 4 = l by omega]; exact Or.inr hl
theorem sm_mul {f : Nat → Nat} {a : Nat} : ∀ n, sm (fun i => f i * a) n = sm f n * a := by
  intro n
  induction n with
  | zero => exact (Nat.zero_mul _).symm
  | succ n ih => show sm (fun i => f i * a) n + f n * a = (sm f n + f n) * a; rw [ih, Nat.add_mul]
section M1
variable {g : am_H} {k : Mk} {v pl : Nat → Int32} {br lo : Int32} {c ct pr pt cm bf bt : Nat → Int32}
variable {lv : Nat} {T : Sd} {W : Nat → Lw}
variable {S : Nat → Nat}
theorem c_spreadsL {Q : Option Value → am_H → Prop} (hM : MR k lv T W) (hG : GS T)  {D E : Nat → Nat} {F : Nat → Nat → Nat} {x : Int32} {j : Nat} (hD : CE c D) (hE : CE ct E) (q : ∀ ct' E', CE ct' E' → SP T F E E' (6 * D 384) 0 → Q none (mh g k v pl br lo c ct' pr pt cm bf bt)) : AC am_P 4 107 271 [.ref 121, .int (nI 384), .int (nI j), .int x] (mh g k v pl br lo c ct pr pt cm bf bt) Q := by
  refine AC.of (ls := [_, _, _, _, _]) rfl ?_
  refine aw rfl rfl ?_
  refine aw_c (v := nI 384) rfl (by decide) ?_
  refine aw_ieq rfl (fun _ => ?_) (fun c => absurd (by decide) c)
  refine aw rfl rfl ?_
  refine aw_getf rfl mg_121 rfl ?_
  refine aw rfl rfl ?_
  refine aw rfl rfl ?_
  refine aw_ialdE rfl mg_160 rfl (by omega) (by decide) (hE _ (by decide)) ?_
  refine aw_c (v := nI 6) rfl (by decide) ?_
  refine aw rfl rfl ?_
  refine aw_getf rfl mg_121 rfl ?_
  refine aw rfl rfl ?_
  refine aw_ialdE rfl mg_159 rfl (by omega) (by decide) (hD _ (by decide)) ?_
  refine aw_muln rfl ?_
  refine aw_addn rfl ?_
  refine aw_iastU rfl mg_160 rfl (by omega) (by decide) (by decide) mu_160 ?_
  refine aw rfl rfl ?_
  exact aw_vret rfl rfl (q _ _ hE.up (by have := sp_up (T := T) (F := F) (E := E) (x := 6 * D 384) (m := 384) (by decide) (Or.inl rfl); rw [show VS F 384 = 0 from rfl, Nat.mul_zero] at this; exact this))
theorem c_X11_spreadsOne {Q : Option Value → am_H → Prop} (hM : MR k lv T W) (hG : GS T) {D E : Nat → Nat} {F : Nat → Nat → Nat} {x : Int32} {j : Nat} (hD : CE c D) (hE : CE ct E) {l w : Nat} (hl : lieOK T l) (hw : w < 4) (hj : j < T.1 3) (q : ∀ v pl br lo ct' E', CE ct' E' → SP T F E E' (6 * D (4 * l + w)) (D (4 * l + w) * (if hm T l = true then 6 * F l w else va T (lwf W) F l w (act T (lwf W) F (some j) l w x) x)) → Q none (mh g k v pl br lo c ct' pr pt cm bf bt)) : AC am_P 4 107 271 [.ref 121, .int (nI (4 * l + w)), .int (nI j), .int x] (mh g k v pl br lo c ct pr pt cm bf bt) Q := by
  refine AC.of (ls := [_, _, _, _, _]) rfl ?_
  have hM0 := hM
  have hG0 := hG
  obtain ⟨m0, m1, mr, mw, mf, mk, mli, mt, ms, msq, moc, mwy, msp, mlw⟩ := hM
  obtain ⟨⟨g0, g0x⟩, ⟨g1, g1x⟩, ⟨g2, g2x⟩, ⟨g3, g3x⟩, g4, ⟨g5, g5x⟩, g6, gsq, goc, gwt, gsp, gfr⟩ := hG
  have hl96 := hl.1
  have hls := lsg_lt hl96 hw
  have hE4 := hE
  have hg := goc j hj
  have hoc : k.2.1 27 (4 * lv + j) = nI (oc T j) := (moc j hj).trans hg.1
  have ho6 := hg.2.2.1
  refine aw rfl rfl ?_
  refine aw_c (v := nI 384) rfl (by decide) ?_
  refine aw_ieqn rfl (fun c4 => by omega) (fun c4 => ?_)
  refine aw rfl rfl ?_
  refine aw rfl rfl ?_
  refine aw_cv (d1 := 1) (L1 := 22) rfl rfl mg_121 rfl rfl (by decide) (by decide) (Nat.le_of_ble_eq_true rfl) (c_so hM0 hG0 hl96 hw hl.2.1 hl.2.2.1 ?_)
  refine aw_c (v := nI 6) rfl (by decide) ?_
  refine aw_ine rfl (fun c14 => ?_) (fun c14 => ?_)
  · refine aw rfl rfl ?_
    refine aw rfl rfl ?_
    refine aw rfl rfl ?_
    refine aw_cv (d1 := 2) (L1 := 43) rfl rfl mg_121 rfl rfl (by decide) (by decide) (Nat.le_of_ble_eq_true rfl) (c_X11_canKick hM0 hG0 hl hw hj (fun hz => ?_) (fun z0 => ?_))
    · refine aw_ne rfl (fun _ => ?_) (fun c => absurd c (by decide))
      refine aw_c (v := nI 0) rfl (by decide) ?_
      refine aw_ist (ls' := [_, _, _, _, _]) rfl rfl ?_
      refine aw_loop (α := (Nat → Int32) × (Nat → Int32) × Int32 × Int32 × (Nat → Int32) × (Nat → Nat)) (ll := fun i y => [some (.ref 121), some (.int (nI (4 * l + w))), some (.int (nI j)), some (.int x), some (.int (nI i))]) (hh := fun i y => mh g k y.1 y.2.1 y.2.2.1 y.2.2.2.1 c y.2.2.2.2.1 pr pt cm bf bt) (I := fun i y => CE y.2.2.2.2.1 y.2.2.2.2.2 ∧ SP T F E y.2.2.2.2.2 (sm (fun o => sx T (6 * j + o)) i * D (4 * l + w)) (D (4 * l + w) * sm (fun o => sx T (6 * j + o) * ld T (lwf W) F l w (6 * j + o) x) i)) (N := oc T j) (fun i y hi hI ih => ?_) (fun y hI => ?_) 0 (v, pl, br, lo, ct, E) (Nat.zero_le _) ⟨hE, by rw [show sm (fun o => sx T (6 * j + o)) 0 * D (4 * l + w) = 0 from Nat.zero_mul _]; exact sp_rf⟩
      · skip
        obtain ⟨v, pl, br, lo, ct', E'⟩ := y
        obtain ⟨hE1, hS1⟩ := hI
        dsimp only at hE1 hS1 ⊢
        have hgo := hg.2.2.2.2 i hi
        have hsx : k.2.1 28 (6 * (4 * lv + j) + i) = nI (sx T (6 * j + i)) := (mwy j i hj hi).1.trans hgo.1
        refine aw rfl rfl ?_
        refine aw rfl rfl ?_
        refine aw_getf rfl mg_121 rfl ?_
        refine aw_c (v := nI 4) rfl (by decide) ?_
        refine aw rfl rfl ?_
        refine aw_getfE rfl mg_121 rfl (congrArg Value.int m1) ?_
        refine aw_muln rfl ?_
        refine aw rfl rfl ?_
        refine aw_addn rfl ?_
        refine aw_ialdE rfl mg_135 rfl (by omega) (by decide) hoc ?_
        refine aw_igen rfl (fun c91 => by omega) (fun c91 => ?_)
        refine aw rfl rfl ?_
        refine aw_getf rfl mg_121 rfl ?_
        refine aw rfl rfl ?_
        refine aw rfl rfl ?_
        refine aw rfl rfl ?_
        refine aw rfl rfl ?_
        refine aw rfl rfl ?_
        refine aw_cv (d1 := 3) (L1 := 75) rfl rfl mg_121 rfl rfl (by decide) (by decide) (Nat.le_of_ble_eq_true rfl) (c_X11_brought hM0 hG0 hl hw hj hi (fun z v pl br => ?_) (fun m z z2 v pl br => ?_))
        · refine aw rfl rfl ?_
          refine aw_ialdE rfl mg_160 rfl (by omega) (by decide) (hE1 _ hls) ?_
          refine aw rfl rfl ?_
          refine aw_getf rfl mg_121 rfl ?_
          refine aw_c (v := nI 6) rfl (by decide) ?_
          refine aw_c (v := nI 4) rfl (by decide) ?_
          refine aw rfl rfl ?_
          refine aw_getfE rfl mg_121 rfl (congrArg Value.int m1) ?_
          refine aw_muln rfl ?_
          refine aw rfl rfl ?_
          refine aw_addn rfl ?_
          refine aw_muln rfl ?_
          refine aw rfl rfl ?_
          refine aw_addn rfl ?_
          refine aw_ialdE rfl mg_136 rfl (by omega) (by decide) hsx ?_
          refine aw rfl rfl ?_
          refine aw_getf rfl mg_121 rfl ?_
          refine aw rfl rfl ?_
          refine aw_ialdE rfl mg_159 rfl (by omega) (by decide) (hD _ (by omega)) ?_
          refine aw_muln rfl ?_
          refine aw_addn rfl ?_
          refine aw_iastU rfl mg_160 rfl (by omega) (by decide) (by decide) mu_160 ?_
          refine aw_incn (c := 1) (ls' := [_, _, _, _, _]) rfl rfl (by decide) rfl ?_
          refine aw rfl rfl ?_
          refine ih (_, _, _, _, _, _) ⟨hE1.up, ?_⟩
          have h9 := sp_tr hS1 (sp_up (T := T) (F := F) (E := E') (x := sx T (6 * j + i) * D (4 * l + w)) (m := lsg l w) hls (lsg_ok hl hw))
          rw [vs_lsg hl96 hw, ← ld_lost (F := F) (w := w) z] at h9
          rw [show sm (fun o => sx T (6 * j + o)) (i + 1) * D (4 * l + w) = sm (fun o => sx T (6 * j + o)) i * D (4 * l + w) + sx T (6 * j + i) * D (4 * l + w) from Nat.add_mul _ _ _, show D (4 * l + w) * sm (fun o => sx T (6 * j + o) * ld T (lwf W) F l w (6 * j + o) x) (i + 1) = D (4 * l + w) * sm (fun o => sx T (6 * j + o) * ld T (lwf W) F l w (6 * j + o) x) i + sx T (6 * j + i) * D (4 * l + w) * ld T (lwf W) F l w (6 * j + i) x by show D (4 * l + w) * (sm (fun o => sx T (6 * j + o) * ld T (lwf W) F l w (6 * j + o) x) i + sx T (6 * j + i) * ld T (lwf W) F l w (6 * j + i) x) = _; rw [Nat.mul_add, Nat.mul_comm (sx T (6 * j + i)) (D (4 * l + w)), Nat.mul_assoc]]
          exact h9
        · have hm96 := z2.1
          refine aw rfl rfl ?_
          refine aw_ialdE rfl mg_160 rfl (by omega) (by decide) (hE1 _ (by omega)) ?_
          refine aw rfl rfl ?_
          refine aw_getf rfl mg_121 rfl ?_
          refine aw_c (v := nI 6) rfl (by decide) ?_
          refine aw_c (v := nI 4) rfl (by decide) ?_
          refine aw rfl rfl ?_
          refine aw_getfE rfl mg_121 rfl (congrArg Value.int m1) ?_
          refine aw_muln rfl ?_
          refine aw rfl rfl ?_
          refine aw_addn rfl ?_
          refine aw_muln rfl ?_
          refine aw rfl rfl ?_
          refine aw_addn rfl ?_
          refine aw_ialdE rfl mg_136 rfl (by omega) (by decide) hsx ?_
          refine aw rfl rfl ?_
          refine aw_getf rfl mg_121 rfl ?_
          refine aw rfl rfl ?_
          refine aw_ialdE rfl mg_159 rfl (by omega) (by decide) (hD _ (by omega)) ?_
          refine aw_muln rfl ?_
          refine aw_addn rfl ?_
          refine aw_iastU rfl mg_160 rfl (by omega) (by decide) (by decide) mu_160 ?_
          refine aw_incn (c := 1) (ls' := [_, _, _, _, _]) rfl rfl (by decide) rfl ?_
          refine aw rfl rfl ?_
          refine ih (_, _, _, _, _, _) ⟨hE1.up, ?_⟩
          have h9 := sp_tr hS1 (sp_up (T := T) (F := F) (E := E') (x := sx T (6 * j + i) * D (4 * l + w)) (m := 4 * m + w) (by omega) (on_ok z2 hw))
          rw [vs_on hm96 hw, ← ld_on (F := F) (w := w) z (by omega)] at h9
          rw [show sm (fun o => sx T (6 * j + o)) (i + 1) * D (4 * l + w) = sm (fun o => sx T (6 * j + o)) i * D (4 * l + w) + sx T (6 * j + i) * D (4 * l + w) from Nat.add_mul _ _ _, show D (4 * l + w) * sm (fun o => sx T (6 * j + o) * ld T (lwf W) F l w (6 * j + o) x) (i + 1) = D (4 * l + w) * sm (fun o => sx T (6 * j + o) * ld T (lwf W) F l w (6 * j + o) x) i + sx T (6 * j + i) * D (4 * l + w) * ld T (lwf W) F l w (6 * j + i) x by show D (4 * l + w) * (sm (fun o => sx T (6 * j + o) * ld T (lwf W) F l w (6 * j + o) x) i + sx T (6 * j + i) * ld T (lwf W) F l w (6 * j + i) x) = _; rw [Nat.mul_add, Nat.mul_comm (sx T (6 * j + i)) (D (4 * l + w)), Nat.mul_assoc]]
          exact h9
      · skip
        obtain ⟨v, pl, br, lo, ct', E'⟩ := y
        obtain ⟨hE1, hS1⟩ := hI
        dsimp only at hE1 hS1 ⊢
        refine aw rfl rfl ?_
        refine aw rfl rfl ?_
        refine aw_getf rfl mg_121 rfl ?_
        refine aw_c (v := nI 4) rfl (by decide) ?_
        refine aw rfl rfl ?_
        refine aw_getfE rfl mg_121 rfl (congrArg Value.int m1) ?_
        refine aw_muln rfl ?_
        refine aw rfl rfl ?_
        refine aw_addn rfl ?_
        refine aw_ialdE rfl mg_135 rfl (by omega) (by decide) hoc ?_
        refine aw_igen rfl (fun c91 => ?_) (fun c91 => by omega)
        exact aw_vret rfl rfl (q _ _ _ _ _ _ hE1 (by rw [if_neg (by unfold hm; exact fun y => c14 (of_decide_eq_true y))]; have ea : act T (lwf W) F (some j) l w x = j := (by show (if mck T l j = true then j else T.1 3) = _; rw [if_pos (mck_iff.mpr hz)]); rw [ea]; have ev : va T (lwf W) F l w j x = sm (fun o => sx T (6 * j + o) * ld T (lwf W) F l w (6 * j + o) x) (oc T j) := (by unfold va; rw [if_neg (by omega)]); rw [ev]; rw [hg.2.2.2.1] at hS1; exact hS1))
    · refine aw_ne rfl (fun c => absurd (by decide) c) (fun _ => ?_)
      refine aw rfl rfl ?_
      refine aw_getf rfl mg_121 rfl ?_
      refine aw rfl rfl ?_
      refine aw rfl rfl ?_
      refine aw rfl rfl ?_
      refine aw_cv (d1 := 3) (L1 := 75) rfl rfl mg_121 rfl rfl (by decide) (by decide) (Nat.le_of_ble_eq_true rfl) (c_X11_waited hM0 hG0 hl hw (fun z v pl br => ?_) (fun z v pl br => ?_))
      · refine aw rfl rfl ?_
        refine aw_ialdE rfl mg_160 rfl (by omega) (by decide) (hE _ hls) ?_
        refine aw_c (v := nI 6) rfl (by decide) ?_
        refine aw rfl rfl ?_
        refine aw_getf rfl mg_121 rfl ?_
        refine aw rfl rfl ?_
        refine aw_ialdE rfl mg_159 rfl (by omega) (by decide) (hD _ (by omega)) ?_
        refine aw_muln rfl ?_
        refine aw_addn rfl ?_
        refine aw_iastU rfl mg_160 rfl (by omega) (by decide) (by decide) mu_160 ?_
        refine aw rfl rfl ?_
        exact aw_vret rfl rfl (q _ _ _ _ _ _ hE.up (by rw [if_neg (by unfold hm; exact fun y => c14 (of_decide_eq_true y))]; have ea : act T (lwf W) F (some j) l w x = T.1 3 := (by show (if mck T l j = true then j else T.1 3) = _; rw [if_neg (fun y => z0 (mck_iff.mp y))]); have ev : va T (lwf W) F l w (T.1 3) x = 6 * ld T (lwf W) F l w 24 x := (by unfold va; rw [if_pos rfl]); rw [ea, ev, ld_lost z]; have := sp_up (T := T) (F := F) (E := E) (x := 6 * D (4 * l + w)) (m := lsg l w) hls (lsg_ok hl hw); rw [vs_lsg hl96 hw] at this; rw [Nat.mul_left_comm, ← Nat.mul_assoc]; exact this))
      · refine aw rfl rfl ?_
        refine aw_ialdE rfl mg_160 rfl (by omega) (by decide) (hE _ (by omega)) ?_
        refine aw_c (v := nI 6) rfl (by decide) ?_
        refine aw rfl rfl ?_
        refine aw_getf rfl mg_121 rfl ?_
        refine aw rfl rfl ?_
        refine aw_ialdE rfl mg_159 rfl (by omega) (by decide) (hD _ (by omega)) ?_
        refine aw_muln rfl ?_
        refine aw_addn rfl ?_
        refine aw_iastU rfl mg_160 rfl (by omega) (by decide) (by decide) mu_160 ?_
        refine aw rfl rfl ?_
        exact aw_vret rfl rfl (q _ _ _ _ _ _ hE.up (by rw [if_neg (by unfold hm; exact fun y => c14 (of_decide_eq_true y))]; have ea : act T (lwf W) F (some j) l w x = T.1 3 := (by show (if mck T l j = true then j else T.1 3) = _; rw [if_neg (fun y => z0 (mck_iff.mp y))]); have ev : va T (lwf W) F l w (T.1 3) x = 6 * ld T (lwf W) F l w 24 x := (by unfold va; rw [if_pos rfl]); rw [ea, ev, ld_on z (by omega)]; have := sp_up (T := T) (F := F) (E := E) (x := 6 * D (4 * l + w)) (m := 4 * l + w) (by omega) (on_ok hl hw); rw [vs_on hl96 hw] at this; rw [Nat.mul_left_comm, ← Nat.mul_assoc]; exact this))
  · refine aw rfl rfl ?_
    refine aw_getf rfl mg_121 rfl ?_
    refine aw rfl rfl ?_
    refine aw rfl rfl ?_
    refine aw_ialdE rfl mg_160 rfl (by omega) (by decide) (hE _ (by omega)) ?_
    refine aw_c (v := nI 6) rfl (by decide) ?_
    refine aw rfl rfl ?_
    refine aw_getf rfl mg_121 rfl ?_
    refine aw rfl rfl ?_
    refine aw_ialdE rfl mg_159 rfl (by omega) (by decide) (hD _ (by omega)) ?_
    refine aw_muln rfl ?_
    refine aw_addn rfl ?_
    refine aw_iastU rfl mg_160 rfl (by omega) (by decide) (by decide) mu_160 ?_
    refine aw rfl rfl ?_
    exact aw_vret rfl rfl (q _ _ _ _ _ _ hE.up (by rw [if_pos (by unfold hm; exact decide_eq_true c14)]; have := sp_up (T := T) (F := F) (E := E) (x := 6 * D (4 * l + w)) (m := 4 * l + w) (by omega) (on_ok hl hw); rw [vs_on hl96 hw] at this; rw [show D (4 * l + w) * (6 * F l w) = 6 * D (4 * l + w) * F l w by rw [Nat.mul_left_comm, Nat.mul_assoc]]; exact this))
end M1
end
section
/-! ===== the reference: spreads, comes ===== -/
def cmN (T : Sd) (LW : LWt) (S : Nat → Nat) (j n sq : Nat) : Nat := if S 6 = 2 then 0 else Fc T LW (some j) (fun l => decide (l / 3 = sq)) n (S 4 * T.1 5) (S 0 * 3 + S 1) (S 2)
def a_comes (T : Sd) (LW : LWt) (S : Nat → Nat) (y x z u : Int32) (b : Bool) : Int32 := kin T y fun j => sp x 0 10 fun n => pl_in T z u fun a e => nI (fr (cmN T LW S j n (e * 8 + a)) (6 ^ n) b)
theorem Fc_home {T : Sd} {LW : LWt} {r : Option Nat} {gl : Nat → Bool} {n t l w : Nat} (h : hm T l = true) : Fc T LW r gl n t l w = bif gl l then 6 ^ n else 0 := by
  cases n with
  | zero => rfl
  | succ n => show lay T LW _ _ _ l w _ = _; unfold lay; rw [if_pos h]
theorem Fc_away {T : Sd} {LW : LWt} {r : Option Nat} {gl : Nat → Bool} {n t l w : Nat} (h : ¬ hm T l = true) : Fc T LW r gl (n + 1) t l w = va T LW (Fc T LW r gl n (t + T.1 5)) l w (act T LW (Fc T LW r gl n (t + T.1 5)) r l w (nI t)) (nI t) := by
  show lay T LW _ _ _ l w _ = _; unfold lay; rw [if_neg h]
theorem Fc_st {T : Sd} {LW : LWt} {r : Option Nat} {gl : Nat → Bool} {n t l w : Nat} : (if hm T l = true then 6 * Fc T LW r gl n (t + T.1 5) l w else va T LW (Fc T LW r gl n (t + T.1 5)) l w (act T LW (Fc T LW r gl n (t + T.1 5)) r l w (nI t)) (nI t)) = Fc T LW r gl (n + 1) t l w := by
  by_cases h : hm T l = true
  · rw [if_pos h, Fc_home h, Fc_home h]
    cases gl l with
    | true => show 6 * 6 ^ n = 6 ^ (n + 1); rw [Nat.pow_succ, Nat.mul_comm]
    | false => rfl
  · rw [if_neg h, Fc_away h]
theorem sm_zero {f : Nat → Nat} : ∀ n, (∀ i, i < n → f i = 0) → sm f n = 0 := by
  intro n
  induction n with
  | zero => intro _; rfl
  | succ n ih => intro h; show sm f n + f n = 0; rw [ih (fun i hi => h i (by omega)), h n (by omega)]
theorem sm_le1 {f : Nat → Nat} : ∀ n i, i < n → f i ≤ sm f n := by
  intro n
  induction n with
  | zero => intro i h; omega
  | succ n ih =>
    intro i h
    show f i ≤ sm f n + f n
    by_cases e : i = n
    · subst e; omega
    · have := ih i (by omega); omega
theorem sm_win {f g : Nat → Nat} {a : Nat} (h0 : ∀ i, i < a → f i = 0) : ∀ k, (∀ i, i < k → f (a + i) = g i) → sm f (a + k) = sm g k := by
  intro k
  induction k with
  | zero => intro _; exact sm_zero a h0
  | succ k ih => intro h; show sm f (a + k) + f (a + k) = sm g k + g k; rw [ih (fun i hi => h i (by omega)), h k (by omega)]
theorem sm_tail {f : Nat → Nat} {a : Nat} : ∀ k, (∀ i, i < k → f (a + i) = 0) → sm f (a + k) = sm f a := by
  intro k
  induction k with
  | zero => intro _; rfl
  | succ k ih => intro h; show sm f (a + k) + f (a + k) = _; rw [ih (fun i hi => h i (by omega)), h k (by omega)]; rfl
theorem pV_sq {T : Sd} {LW : LWt} {r : Option Nat} {D : Nat → Nat} {sq t : Nat} (hs : sq < 32) : pV D (Fc T LW r (fun l => decide (l / 3 = sq)) 0 t) = sm (fun i => D (12 * sq + i)) 12 := by
  have hv : ∀ s, VS (Fc T LW r (fun l => decide (l / 3 = sq)) 0 t) s = if s = 384 then 0 else (bif decide (s / 4 / 3 = sq) then 1 else 0) := fun s => rfl
  have h1 : sm (fun s => D s * VS (Fc T LW r (fun l => decide (l / 3 = sq)) 0 t) s) (12 * sq + 12) = sm (fun i => D (12 * sq + i)) 12 := sm_win (fun i hi => by rw [hv, if_neg (by omega), decide_eq_false (by omega)]; rfl) 12 (fun i hi => by rw [hv, if_neg (by omega), decide_eq_true (by omega)]; exact Nat.mul_one _)
  have h2 : sm (fun s => D s * VS (Fc T LW r (fun l => decide (l / 3 = sq)) 0 t) s) (12 * sq + 12 + (373 - 12 * sq)) = _ := sm_tail (373 - 12 * sq) (fun i hi => by
    rw [hv]
    by_cases e : 12 * sq + 12 + i = 384
    · rw [if_pos e]; rfl
    · rw [if_neg e, decide_eq_false (by omega)]; rfl)
  rw [show 12 * sq + 12 + (373 - 12 * sq) = 385 by omega] at h2
  unfold pV
  rw [h2, h1]
theorem CE.put {c : Nat → Int32} {D : Nat → Nat} {m x : Nat} (h : CE c D) : CE (upd c m (nI x)) (va_up D m x) := h.up
theorem pV_0 {F : Nat → Nat → Nat} : pV (fun _ => 0) F = 0 := sm_zero _ (fun i _ => Nat.zero_mul _)
section M1
variable {g : am_H} {k : Mk} {v pl : Nat → Int32} {br lo : Int32} {c ct pr pt cm bf bt : Nat → Int32}
variable {lv : Nat} {T : Sd} {W : Nat → Lw}
variable {S : Nat → Nat}
theorem c_spX {Q : Option Value → am_H → Prop} (hM : MR k lv T W) (hG : GS T) {D E : Nat → Nat} {F : Nat → Nat → Nat} {x : Int32} {j s : Nat} (hD : CE c D) (hE : CE ct E) (hU : SU T D) (hs : s < 385) (hj : j < T.1 3) (h0 : ¬ D s = 0) (q : ∀ v pl br lo ct' E', CE ct' E' → SP T F E E' (6 * D s) (D s * (if s = 384 then 0 else if hm T (s / 4) = true then 6 * F (s / 4) (s % 4) else va T (lwf W) F (s / 4) (s % 4) (act T (lwf W) F (some j) (s / 4) (s % 4) x) x)) → Q none (mh g k v pl br lo c ct' pr pt cm bf bt)) : AC am_P 4 107 271 [.ref 121, .int (nI s), .int (nI j), .int x] (mh g k v pl br lo c ct pr pt cm bf bt) Q := by
  by_cases e : s = 384
  · subst e
    refine c_spreadsL (F := F) hM hG hD hE (fun ct' E' h1 h2 => q _ _ _ _ ct' E' h1 ?_)
    rw [if_pos rfl, Nat.mul_zero]; exact h2
  · have e4 : s = 4 * (s / 4) + s % 4 := by omega
    have hl : lieOK T (s / 4) := Classical.byContradiction (fun z => h0 (hU s (by omega) z))
    rw [if_neg e] at q
    have h := c_X11_spreadsOne (g := g) (v := v) (pl := pl) (br := br) (lo := lo) (pr := pr) (pt := pt) (cm := cm) (bf := bf) (bt := bt) (Q := Q) (F := F) (x := x) hM hG hD hE hl (show s % 4 < 4 by omega) hj
    rw [← e4] at h
    exact h q
theorem c_X11_spreads {Q : Option Value → am_H → Prop} (hM : MR k lv T W) (hG : GS T) (hN : NR T (k.2.1 53) S) (hS : SG T S) {j n : Nat} {gl : Nat → Bool} (hj : j < T.1 3) (hn : n ≤ 10) (q : ∀ v pl br lo c ct D, CE c D ∧ SU T D ∧ sm D 385 = 6 ^ n ∧ pV D (Fc T (lwf W) (some j) gl (n - n) (S 4 * T.1 5 + n * T.1 5)) = (if S 6 = 2 then 0 else Fc T (lwf W) (some j) gl n (S 4 * T.1 5) (S 0 * 3 + S 1) (S 2)) → Q none (mh g k v pl br lo c ct pr pt cm bf bt)) : AC am_P 5 131 270 [.ref 121, .int (nI j), .int (nI n)] (mh g k v pl br lo c ct pr pt cm bf bt) Q := by
  refine AC.of (ls := [_, _, _, _, _, _]) rfl ?_
  have hM0 := hM
  have hG0 := hG
  obtain ⟨m0, m1, mr, mw, mf, mk, mli, mt, ms, msq, moc, mwy, msp, mlw⟩ := hM
  obtain ⟨⟨g0, g0x⟩, ⟨g1, g1x⟩, ⟨g2, g2x⟩, ⟨g3, g3x⟩, g4, ⟨g5, g5x⟩, g6, gsq, goc, gwt, gsp, gfr⟩ := hG
  have hN0 := hN
  have hS0 := hS
  obtain ⟨n0, n1, n2, n3, n4, n5, n6, n7, n8⟩ := hN
  obtain ⟨s0, s1, s2, s3, s4, s5, s6⟩ := hS
  have hl96 := s0.1
  refine aw_c (v := nI 0) rfl (by decide) ?_
  refine aw_ist (ls' := [_, _, _, _, _, _]) rfl rfl ?_
  refine aw_loop (α := Nat → Int32) (ll := fun z y => [some (.ref 121), some (.int (nI j)), some (.int (nI n)), some (.int (nI z)), none, none]) (hh := fun z y => mh g k v pl br lo y ct pr pt cm bf bt) (I := fun z y => ∀ s, s < z → y s = nI 0) (N := 385) (fun z y hz hIz ihz => ?_) (fun y hIz => ?_) 0 c (Nat.zero_le _) (fun s hs => absurd hs (Nat.not_lt_zero _))
  · skip
    refine aw rfl rfl ?_
    refine aw_c (v := nI 385) rfl (by decide) ?_
    refine aw_igen rfl (fun c6 => by omega) (fun c6 => ?_)
    refine aw rfl rfl ?_
    refine aw_getf rfl mg_121 rfl ?_
    refine aw rfl rfl ?_
    refine aw_c (v := nI 0) rfl (by decide) ?_
    refine aw_iastU rfl mg_159 rfl (by omega) (by decide) (by decide) mu_159 ?_
    refine aw_incn (c := 1) (ls' := [_, _, _, _, _, _]) rfl rfl (by decide) rfl ?_
    refine aw rfl rfl ?_
    exact ihz (upd y z (nI 0)) (fun s hs => by
      by_cases e : s = z
      · subst e; unfold upd; rw [if_pos rfl]
      · unfold upd; rw [if_neg e]; exact hIz s (by omega))
  · skip
    refine aw rfl rfl ?_
    refine aw_c (v := nI 385) rfl (by decide) ?_
    refine aw_ige rfl (fun _ => ?_) (fun c => absurd (by decide) c)
    refine aw rfl rfl ?_
    refine aw_getf rfl mg_121 rfl ?_
    refine aw rfl rfl ?_
    refine aw_cv (d1 := 1) (L1 := 23) rfl rfl mg_121 rfl rfl (by decide) (by decide) (Nat.le_of_ble_eq_true rfl) (c_X11_stateNow hM0 hG0 hN0 hS0 (fun z => ?_) (fun z => ?_))
    · refine aw_c (v := nI 1) rfl (by decide) ?_
      refine aw_iastU rfl mg_159 rfl (by omega) (by decide) (by decide) mu_159 ?_
      refine aw_c (v := nI 0) rfl (by decide) ?_
      refine aw_ist (ls' := [_, _, _, _, _, _]) rfl rfl ?_
      have hy : CE y (fun _ => 0) := hIz
      have hs1 := sp_up (T := T) (F := Fc T (lwf W) (some j) gl n (S 4 * T.1 5)) (E := fun _ => 0) (m := 384) (x := 1) (by decide) (Or.inl rfl)
      have hI0 : CE (upd y (384) (nI 1)) (va_up (fun _ => 0) (384) 1) ∧ SU T (va_up (fun _ => 0) (384) 1) ∧ sm (va_up (fun _ => 0) (384) 1) 385 = 6 ^ 0 ∧ pV (va_up (fun _ => 0) (384) 1) (Fc T (lwf W) (some j) gl (n - 0) (S 4 * T.1 5 + 0 * T.1 5)) = (if S 6 = 2 then 0 else Fc T (lwf W) (some j) gl n (S 4 * T.1 5) (S 0 * 3 + S 1) (S 2)) := ⟨hy.up, hs1.2.2 (fun _ _ _ => rfl), by rw [hs1.2.1, sm_zero _ (fun _ _ => rfl)], by rw [Nat.zero_mul, Nat.add_zero, Nat.sub_zero, hs1.1, pV_0, show VS _ 384 = 0 from rfl]; rw [if_pos z]⟩
      refine (show ∀ c D, CE c D ∧ SU T D ∧ sm D 385 = 6 ^ 0 ∧ pV D (Fc T (lwf W) (some j) gl (n - 0) (S 4 * T.1 5 + 0 * T.1 5)) = (if S 6 = 2 then 0 else Fc T (lwf W) (some j) gl n (S 4 * T.1 5) (S 0 * 3 + S 1) (S 2)) → AW am_P 5 131 270 34 [some (.ref 121), some (.int (nI j)), some (.int (nI n)), some (.int (nI 0)), none, none] [] (mh g k v pl br lo c ct pr pt cm bf bt) Q from fun c D hI0 => ?_) _ _ hI0
      refine aw_loop (α := (Nat → Int32) × (Nat → Int32) × Int32 × Int32 × (Nat → Int32) × (Nat → Int32) × (Nat → Nat) × Option Value × Option Value) (ll := fun i y => [some (.ref 121), some (.int (nI j)), some (.int (nI n)), some (.int (nI i)), y.2.2.2.2.2.2.2.1, y.2.2.2.2.2.2.2.2]) (hh := fun i y => mh g k y.1 y.2.1 y.2.2.1 y.2.2.2.1 y.2.2.2.2.1 y.2.2.2.2.2.1 pr pt cm bf bt) (I := fun i y => CE y.2.2.2.2.1 y.2.2.2.2.2.2.1 ∧ SU T y.2.2.2.2.2.2.1 ∧ sm y.2.2.2.2.2.2.1 385 = 6 ^ i ∧ pV y.2.2.2.2.2.2.1 (Fc T (lwf W) (some j) gl (n - i) (S 4 * T.1 5 + i * T.1 5)) = (if S 6 = 2 then 0 else Fc T (lwf W) (some j) gl n (S 4 * T.1 5) (S 0 * 3 + S 1) (S 2))) (N := n) (fun i y hi hI ihi => ?_) (fun y hI => ?_) 0 (v, pl, br, lo, c, ct, D, none, none) (Nat.zero_le _) hI0
      · skip
        obtain ⟨v, pl, br, lo, c, ct, D, l4, l5⟩ := y
        obtain ⟨hD, hU, hT, hP⟩ := hI
        dsimp only at hD hU hT hP ⊢
        refine aw rfl rfl ?_
        refine aw rfl rfl ?_
        refine aw_igen rfl (fun c36 => by omega) (fun c36 => ?_)
        refine aw rfl rfl ?_
        refine aw_getf rfl mg_121 rfl ?_
        refine aw_c (v := nI 5) rfl (by decide) ?_
        refine aw_ialdE rfl mg_157 rfl (by omega) (by decide) n5 ?_
        refine aw rfl rfl ?_
        refine aw rfl rfl ?_
        refine aw_getf rfl mg_121 rfl ?_
        refine aw rfl rfl ?_
        refine aw_getfE rfl mg_121 rfl (congrArg Value.int m1) ?_
        refine aw_ialdE rfl mg_143 rfl (by omega) (by decide) mt ?_
        refine aw_muln rfl ?_
        refine aw_addn rfl ?_
        refine aw_ist (ls' := [_, _, _, _, _, _]) rfl rfl ?_
        refine aw_c (v := nI 0) rfl (by decide) ?_
        refine aw_ist (ls' := [_, _, _, _, _, _]) rfl rfl ?_
        refine aw_loop (α := Nat → Int32) (ll := fun z y => [some (.ref 121), some (.int (nI j)), some (.int (nI n)), some (.int (nI i)), some (.int (nI (S 4 * T.1 5 + i * T.1 5))), some (.int (nI z))]) (hh := fun z y => mh g k v pl br lo c y pr pt cm bf bt) (I := fun z y => ∀ s, s < z → y s = nI 0) (N := 385) (fun z y hz hIz ihz => ?_) (fun y hIz => ?_) 0 ct (Nat.zero_le _) (fun s hs => absurd hs (Nat.not_lt_zero _))
        · skip
          refine aw rfl rfl ?_
          refine aw_c (v := nI 385) rfl (by decide) ?_
          refine aw_igen rfl (fun c67 => by omega) (fun c67 => ?_)
          refine aw rfl rfl ?_
          refine aw_getf rfl mg_121 rfl ?_
          refine aw rfl rfl ?_
          refine aw_c (v := nI 0) rfl (by decide) ?_
          refine aw_iastU rfl mg_160 rfl (by omega) (by decide) (by decide) mu_160 ?_
          refine aw_incn (c := 1) (ls' := [_, _, _, _, _, _]) rfl rfl (by decide) rfl ?_
          refine aw rfl rfl ?_
          exact ihz (upd y z (nI 0)) (fun s hs => by
            by_cases e : s = z
            · subst e; unfold upd; rw [if_pos rfl]
            · unfold upd; rw [if_neg e]; exact hIz s (by omega))
        · skip
          refine aw rfl rfl ?_
          refine aw_c (v := nI 385) rfl (by decide) ?_
          refine aw_ige rfl (fun _ => ?_) (fun c => absurd (by decide) c)
          refine aw_c (v := nI 0) rfl (by decide) ?_
          refine aw_ist (ls' := [_, _, _, _, _, _]) rfl rfl ?_
          have hct : CE y (fun _ => 0) := hIz
          refine (show ∀ ct, CE ct (fun _ => 0) → AW am_P 5 131 270 87 [some (.ref 121), some (.int (nI j)), some (.int (nI n)), some (.int (nI i)), some (.int (nI (S 4 * T.1 5 + i * T.1 5))), some (.int (nI 0))] [] (mh g k v pl br lo c ct pr pt cm bf bt) Q from fun ct hct => ?_) y hct
          refine aw_loop (α := (Nat → Int32) × (Nat → Int32) × Int32 × Int32 × (Nat → Int32) × (Nat → Nat)) (ll := fun z y => [some (.ref 121), some (.int (nI j)), some (.int (nI n)), some (.int (nI i)), some (.int (nI (S 4 * T.1 5 + i * T.1 5))), some (.int (nI z))]) (hh := fun z y => mh g k y.1 y.2.1 y.2.2.1 y.2.2.2.1 c y.2.2.2.2.1 pr pt cm bf bt) (I := fun z y => CE y.2.2.2.2.1 y.2.2.2.2.2 ∧ SU T y.2.2.2.2.2 ∧ sm y.2.2.2.2.2 385 = 6 * sm D z ∧ pV y.2.2.2.2.2 (Fc T (lwf W) (some j) gl (n - (i + 1)) (S 4 * T.1 5 + i * T.1 5 + T.1 5)) = sm (fun s => D s * VS (Fc T (lwf W) (some j) gl (n - i) (S 4 * T.1 5 + i * T.1 5)) s) z) (N := 385) (fun z y hz hIz ihz => ?_) (fun y hIz => ?_) 0 (v, pl, br, lo, ct, fun _ => 0) (Nat.zero_le _) ⟨hct, fun _ _ _ => rfl, sm_zero _ (fun _ _ => rfl), pV_0⟩
          · skip
            obtain ⟨v, pl, br, lo, ct, E⟩ := y
            obtain ⟨hE, hU1, hT1, hP1⟩ := hIz
            dsimp only at hE hU1 hT1 hP1 ⊢
            have hDz := sm_le1 (f := D) 385 z hz
            have h610 := p6_le (show i ≤ 10 by omega)
            rw [hT] at hDz
            refine aw rfl rfl ?_
            refine aw_c (v := nI 385) rfl (by decide) ?_
            refine aw_igen rfl (fun c92 => by omega) (fun c92 => ?_)
            refine aw rfl rfl ?_
            refine aw_getf rfl mg_121 rfl ?_
            refine aw rfl rfl ?_
            refine aw_ialdE rfl mg_159 rfl (by omega) (by decide) (hD z hz) ?_
            refine aw_len rfl (fun c102 => ?_) (fun c102 => ?_)
            · refine aw_incn (c := 1) (ls' := [_, _, _, _, _, _]) rfl rfl (by decide) rfl ?_
              refine aw rfl rfl ?_
              exact ihz (v, pl, br, lo, ct, E) ⟨hE, hU1, by show sm E 385 = 6 * (sm D z + D z); rw [hT1, c102, Nat.add_zero], by show pV E _ = sm _ z + D z * VS _ z; rw [hP1, c102, Nat.zero_mul, Nat.add_zero]⟩
            · refine aw rfl rfl ?_
              refine aw rfl rfl ?_
              refine aw rfl rfl ?_
              refine aw rfl rfl ?_
              refine aw_cv (d1 := 4) (L1 := 107) rfl rfl mg_121 rfl rfl (by decide) (by decide) (Nat.le_of_ble_eq_true rfl) (c_spX hM0 hG0 (F := (Fc T (lwf W) (some j) gl (n - (i + 1)) (S 4 * T.1 5 + i * T.1 5 + T.1 5))) hD hE hU hz hj (by omega) (fun v pl br lo ct E hE3 hS3 => ?_))
              refine aw_incn (c := 1) (ls' := [_, _, _, _, _, _]) rfl rfl (by decide) rfl ?_
              refine aw rfl rfl ?_
              refine ihz (v, pl, br, lo, ct, E) ⟨hE3, hS3.2.2 hU1, ?_, ?_⟩
              · show sm E 385 = 6 * (sm D z + D z)
                rw [hS3.2.1, hT1, Nat.mul_add]
              · show pV E _ = sm _ z + D z * VS _ z
                rw [hS3.1, hP1]
                refine congrArg (HAdd.hAdd _) (congrArg (HMul.hMul (D z)) ?_)
                unfold VS
                by_cases e384 : z = 384
                · rw [if_pos e384, if_pos e384]
                · rw [if_neg e384, if_neg e384, Fc_st, show n - (i + 1) + 1 = n - i by omega]
          · skip
            obtain ⟨v, pl, br, lo, ct, E⟩ := y
            obtain ⟨hE2, hU2, hT2, hP2⟩ := hIz
            dsimp only at hE2 hU2 hT2 hP2 ⊢
            refine aw rfl rfl ?_
            refine aw_c (v := nI 385) rfl (by decide) ?_
            refine aw_ige rfl (fun _ => ?_) (fun c => absurd (by decide) c)
            refine aw_c (v := nI 0) rfl (by decide) ?_
            refine aw_ist (ls' := [_, _, _, _, _, _]) rfl rfl ?_
            refine aw_loop (α := Nat → Int32) (ll := fun z y => [some (.ref 121), some (.int (nI j)), some (.int (nI n)), some (.int (nI i)), some (.int (nI (S 4 * T.1 5 + i * T.1 5))), some (.int (nI z))]) (hh := fun z y => mh g k v pl br lo y ct pr pt cm bf bt) (I := fun z y => ∀ s, s < z → y s = nI (E s)) (N := 385) (fun z y hz hIz ihz => ?_) (fun y hIz => ?_) 0 c (Nat.zero_le _) (fun s hs => absurd hs (Nat.not_lt_zero _))
            · skip
              refine aw rfl rfl ?_
              refine aw_c (v := nI 385) rfl (by decide) ?_
              refine aw_igen rfl (fun c128 => by omega) (fun c128 => ?_)
              refine aw rfl rfl ?_
              refine aw_getf rfl mg_121 rfl ?_
              refine aw rfl rfl ?_
              refine aw rfl rfl ?_
              refine aw_getf rfl mg_121 rfl ?_
              refine aw rfl rfl ?_
              refine aw_iald rfl mg_160 rfl (by omega) (by decide) ?_
              refine aw_iastU rfl mg_159 rfl (by omega) (by decide) (by decide) mu_159 ?_
              refine aw_incn (c := 1) (ls' := [_, _, _, _, _, _]) rfl rfl (by decide) rfl ?_
              refine aw rfl rfl ?_
              exact ihz (upd y z (ct z)) (fun s hs => by
                by_cases e : s = z
                · subst e; unfold upd; rw [if_pos rfl]; exact hE2 s (by omega)
                · unfold upd; rw [if_neg e]; exact hIz s (by omega))
            · skip
              refine aw rfl rfl ?_
              refine aw_c (v := nI 385) rfl (by decide) ?_
              refine aw_ige rfl (fun _ => ?_) (fun c => absurd (by decide) c)
              refine aw_incn (c := 1) (ls' := [_, _, _, _, _, _]) rfl rfl (by decide) rfl ?_
              refine aw rfl rfl ?_
              exact ihi (v, pl, br, lo, y, ct, E, some (.int (nI (S 4 * T.1 5 + i * T.1 5))), some (.int (nI 385))) ⟨hIz, hU2, by rw [hT2, hT, Nat.pow_succ, Nat.mul_comm], by rw [show S 4 * T.1 5 + (i + 1) * T.1 5 = S 4 * T.1 5 + i * T.1 5 + T.1 5 by rw [Nat.add_mul]; omega, hP2]; exact hP⟩
      · skip
        obtain ⟨v, pl, br, lo, c, ct, D, l4, l5⟩ := y
        obtain ⟨hD, hU, hT, hP⟩ := hI
        dsimp only at hD hU hT hP ⊢
        refine aw rfl rfl ?_
        refine aw rfl rfl ?_
        refine aw_igen rfl (fun c36 => ?_) (fun c36 => by omega)
        exact aw_vret rfl rfl (q _ _ _ _ _ _ D ⟨hD, hU, hT, hP⟩)
    · refine aw_c (v := nI 1) rfl (by decide) ?_
      refine aw_iastU rfl mg_159 rfl (by omega) (by decide) (by decide) mu_159 ?_
      refine aw_c (v := nI 0) rfl (by decide) ?_
      refine aw_ist (ls' := [_, _, _, _, _, _]) rfl rfl ?_
      have hy : CE y (fun _ => 0) := hIz
      have hs1 := sp_up (T := T) (F := Fc T (lwf W) (some j) gl n (S 4 * T.1 5)) (E := fun _ => 0) (m := 4 * (S 0 * 3 + S 1) + S 2) (x := 1) (by omega) (on_ok s0 (by omega))
      have hI0 : CE (upd y (4 * (S 0 * 3 + S 1) + S 2) (nI 1)) (va_up (fun _ => 0) (4 * (S 0 * 3 + S 1) + S 2) 1) ∧ SU T (va_up (fun _ => 0) (4 * (S 0 * 3 + S 1) + S 2) 1) ∧ sm (va_up (fun _ => 0) (4 * (S 0 * 3 + S 1) + S 2) 1) 385 = 6 ^ 0 ∧ pV (va_up (fun _ => 0) (4 * (S 0 * 3 + S 1) + S 2) 1) (Fc T (lwf W) (some j) gl (n - 0) (S 4 * T.1 5 + 0 * T.1 5)) = (if S 6 = 2 then 0 else Fc T (lwf W) (some j) gl n (S 4 * T.1 5) (S 0 * 3 + S 1) (S 2)) := ⟨hy.up, hs1.2.2 (fun _ _ _ => rfl), by rw [hs1.2.1, sm_zero _ (fun _ _ => rfl)], by rw [Nat.zero_mul, Nat.add_zero, Nat.sub_zero, hs1.1, pV_0, vs_on hl96 (by omega)]; rw [if_neg z]; omega⟩
      refine (show ∀ c D, CE c D ∧ SU T D ∧ sm D 385 = 6 ^ 0 ∧ pV D (Fc T (lwf W) (some j) gl (n - 0) (S 4 * T.1 5 + 0 * T.1 5)) = (if S 6 = 2 then 0 else Fc T (lwf W) (some j) gl n (S 4 * T.1 5) (S 0 * 3 + S 1) (S 2)) → AW am_P 5 131 270 34 [some (.ref 121), some (.int (nI j)), some (.int (nI n)), some (.int (nI 0)), none, none] [] (mh g k v pl br lo c ct pr pt cm bf bt) Q from fun c D hI0 => ?_) _ _ hI0
      refine aw_loop (α := (Nat → Int32) × (Nat → Int32) × Int32 × Int32 × (Nat → Int32) × (Nat → Int32) × (Nat → Nat) × Option Value × Option Value) (ll := fun i y => [some (.ref 121), some (.int (nI j)), some (.int (nI n)), some (.int (nI i)), y.2.2.2.2.2.2.2.1, y.2.2.2.2.2.2.2.2]) (hh := fun i y => mh g k y.1 y.2.1 y.2.2.1 y.2.2.2.1 y.2.2.2.2.1 y.2.2.2.2.2.1 pr pt cm bf bt) (I := fun i y => CE y.2.2.2.2.1 y.2.2.2.2.2.2.1 ∧ SU T y.2.2.2.2.2.2.1 ∧ sm y.2.2.2.2.2.2.1 385 = 6 ^ i ∧ pV y.2.2.2.2.2.2.1 (Fc T (lwf W) (some j) gl (n - i) (S 4 * T.1 5 + i * T.1 5)) = (if S 6 = 2 then 0 else Fc T (lwf W) (some j) gl n (S 4 * T.1 5) (S 0 * 3 + S 1) (S 2))) (N := n) (fun i y hi hI ihi => ?_) (fun y hI => ?_) 0 (v, pl, br, lo, c, ct, D, none, none) (Nat.zero_le _) hI0
      · skip
        obtain ⟨v, pl, br, lo, c, ct, D, l4, l5⟩ := y
        obtain ⟨hD, hU, hT, hP⟩ := hI
        dsimp only at hD hU hT hP ⊢
        refine aw rfl rfl ?_
        refine aw rfl rfl ?_
        refine aw_igen rfl (fun c36 => by omega) (fun c36 => ?_)
        refine aw rfl rfl ?_
        refine aw_getf rfl mg_121 rfl ?_
        refine aw_c (v := nI 5) rfl (by decide) ?_
        refine aw_ialdE rfl mg_157 rfl (by omega) (by decide) n5 ?_
        refine aw rfl rfl ?_
        refine aw rfl rfl ?_
        refine aw_getf rfl mg_121 rfl ?_
        refine aw rfl rfl ?_
        refine aw_getfE rfl mg_121 rfl (congrArg Value.int m1) ?_
        refine aw_ialdE rfl mg_143 rfl (by omega) (by decide) mt ?_
        refine aw_muln rfl ?_
        refine aw_addn rfl ?_
        refine aw_ist (ls' := [_, _, _, _, _, _]) rfl rfl ?_
        refine aw_c (v := nI 0) rfl (by decide) ?_
        refine aw_ist (ls' := [_, _, _, _, _, _]) rfl rfl ?_
        refine aw_loop (α := Nat → Int32) (ll := fun z y => [some (.ref 121), some (.int (nI j)), some (.int (nI n)), some (.int (nI i)), some (.int (nI (S 4 * T.1 5 + i * T.1 5))), some (.int (nI z))]) (hh := fun z y => mh g k v pl br lo c y pr pt cm bf bt) (I := fun z y => ∀ s, s < z → y s = nI 0) (N := 385) (fun z y hz hIz ihz => ?_) (fun y hIz => ?_) 0 ct (Nat.zero_le _) (fun s hs => absurd hs (Nat.not_lt_zero _))
        · skip
          refine aw rfl rfl ?_
          refine aw_c (v := nI 385) rfl (by decide) ?_
          refine aw_igen rfl (fun c67 => by omega) (fun c67 => ?_)
          refine aw rfl rfl ?_
          refine aw_getf rfl mg_121 rfl ?_
          refine aw rfl rfl ?_
          refine aw_c (v := nI 0) rfl (by decide) ?_
          refine aw_iastU rfl mg_160 rfl (by omega) (by decide) (by decide) mu_160 ?_
          refine aw_incn (c := 1) (ls' := [_, _, _, _, _, _]) rfl rfl (by decide) rfl ?_
          refine aw rfl rfl ?_
          exact ihz (upd y z (nI 0)) (fun s hs => by
            by_cases e : s = z
            · subst e; unfold upd; rw [if_pos rfl]
            · unfold upd; rw [if_neg e]; exact hIz s (by omega))
        · skip
          refine aw rfl rfl ?_
          refine aw_c (v := nI 385) rfl (by decide) ?_
          refine aw_ige rfl (fun _ => ?_) (fun c => absurd (by decide) c)
          refine aw_c (v := nI 0) rfl (by decide) ?_
          refine aw_ist (ls' := [_, _, _, _, _, _]) rfl rfl ?_
          have hct : CE y (fun _ => 0) := hIz
          refine (show ∀ ct, CE ct (fun _ => 0) → AW am_P 5 131 270 87 [some (.ref 121), some (.int (nI j)), some (.int (nI n)), some (.int (nI i)), some (.int (nI (S 4 * T.1 5 + i * T.1 5))), some (.int (nI 0))] [] (mh g k v pl br lo c ct pr pt cm bf bt) Q from fun ct hct => ?_) y hct
          refine aw_loop (α := (Nat → Int32) × (Nat → Int32) × Int32 × Int32 × (Nat → Int32) × (Nat → Nat)) (ll := fun z y => [some (.ref 121), some (.int (nI j)), some (.int (nI n)), some (.int (nI i)), some (.int (nI (S 4 * T.1 5 + i * T.1 5))), some (.int (nI z))]) (hh := fun z y => mh g k y.1 y.2.1 y.2.2.1 y.2.2.2.1 c y.2.2.2.2.1 pr pt cm bf bt) (I := fun z y => CE y.2.2.2.2.1 y.2.2.2.2.2 ∧ SU T y.2.2.2.2.2 ∧ sm y.2.2.2.2.2 385 = 6 * sm D z ∧ pV y.2.2.2.2.2 (Fc T (lwf W) (some j) gl (n - (i + 1)) (S 4 * T.1 5 + i * T.1 5 + T.1 5)) = sm (fun s => D s * VS (Fc T (lwf W) (some j) gl (n - i) (S 4 * T.1 5 + i * T.1 5)) s) z) (N := 385) (fun z y hz hIz ihz => ?_) (fun y hIz => ?_) 0 (v, pl, br, lo, ct, fun _ => 0) (Nat.zero_le _) ⟨hct, fun _ _ _ => rfl, sm_zero _ (fun _ _ => rfl), pV_0⟩
          · skip
            obtain ⟨v, pl, br, lo, ct, E⟩ := y
            obtain ⟨hE, hU1, hT1, hP1⟩ := hIz
            dsimp only at hE hU1 hT1 hP1 ⊢
            have hDz := sm_le1 (f := D) 385 z hz
            have h610 := p6_le (show i ≤ 10 by omega)
            rw [hT] at hDz
            refine aw rfl rfl ?_
            refine aw_c (v := nI 385) rfl (by decide) ?_
            refine aw_igen rfl (fun c92 => by omega) (fun c92 => ?_)
            refine aw rfl rfl ?_
            refine aw_getf rfl mg_121 rfl ?_
            refine aw rfl rfl ?_
            refine aw_ialdE rfl mg_159 rfl (by omega) (by decide) (hD z hz) ?_
            refine aw_len rfl (fun c102 => ?_) (fun c102 => ?_)
            · refine aw_incn (c := 1) (ls' := [_, _, _, _, _, _]) rfl rfl (by decide) rfl ?_
              refine aw rfl rfl ?_
              exact ihz (v, pl, br, lo, ct, E) ⟨hE, hU1, by show sm E 385 = 6 * (sm D z + D z); rw [hT1, c102, Nat.add_zero], by show pV E _ = sm _ z + D z * VS _ z; rw [hP1, c102, Nat.zero_mul, Nat.add_zero]⟩
            · refine aw rfl rfl ?_
              refine aw rfl rfl ?_
              refine aw rfl rfl ?_
              refine aw rfl rfl ?_
              refine aw_cv (d1 := 4) (L1 := 107) rfl rfl mg_121 rfl rfl (by decide) (by decide) (Nat.le_of_ble_eq_true rfl) (c_spX hM0 hG0 (F := (Fc T (lwf W) (some j) gl (n - (i + 1)) (S 4 * T.1 5 + i * T.1 5 + T.1 5))) hD hE hU hz hj (by omega) (fun v pl br lo ct E hE3 hS3 => ?_))
              refine aw_incn (c := 1) (ls' := [_, _, _, _, _, _]) rfl rfl (by decide) rfl ?_
              refine aw rfl rfl ?_
              refine ihz (v, pl, br, lo, ct, E) ⟨hE3, hS3.2.2 hU1, ?_, ?_⟩
              · show sm E 385 = 6 * (sm D z + D z)
                rw [hS3.2.1, hT1, Nat.mul_add]
              · show pV E _ = sm _ z + D z * VS _ z
                rw [hS3.1, hP1]
                refine congrArg (HAdd.hAdd _) (congrArg (HMul.hMul (D z)) ?_)
                unfold VS
                by_cases e384 : z = 384
                · rw [if_pos e384, if_pos e384]
                · rw [if_neg e384, if_neg e384, Fc_st, show n - (i + 1) + 1 = n - i by omega]
          · skip
            obtain ⟨v, pl, br, lo, ct, E⟩ := y
            obtain ⟨hE2, hU2, hT2, hP2⟩ := hIz
            dsimp only at hE2 hU2 hT2 hP2 ⊢
            refine aw rfl rfl ?_
            refine aw_c (v := nI 385) rfl (by decide) ?_
            refine aw_ige rfl (fun _ => ?_) (fun c => absurd (by decide) c)
            refine aw_c (v := nI 0) rfl (by decide) ?_
            refine aw_ist (ls' := [_, _, _, _, _, _]) rfl rfl ?_
            refine aw_loop (α := Nat → Int32) (ll := fun z y => [some (.ref 121), some (.int (nI j)), some (.int (nI n)), some (.int (nI i)), some (.int (nI (S 4 * T.1 5 + i * T.1 5))), some (.int (nI z))]) (hh := fun z y => mh g k v pl br lo y ct pr pt cm bf bt) (I := fun z y => ∀ s, s < z → y s = nI (E s)) (N := 385) (fun z y hz hIz ihz => ?_) (fun y hIz => ?_) 0 c (Nat.zero_le _) (fun s hs => absurd hs (Nat.not_lt_zero _))
            · skip
              refine aw rfl rfl ?_
              refine aw_c (v := nI 385) rfl (by decide) ?_
              refine aw_igen rfl (fun c128 => by omega) (fun c128 => ?_)
              refine aw rfl rfl ?_
              refine aw_getf rfl mg_121 rfl ?_
              refine aw rfl rfl ?_
              refine aw rfl rfl ?_
              refine aw_getf rfl mg_121 rfl ?_
              refine aw rfl rfl ?_
              refine aw_iald rfl mg_160 rfl (by omega) (by decide) ?_
              refine aw_iastU rfl mg_159 rfl (by omega) (by decide) (by decide) mu_159 ?_
              refine aw_incn (c := 1) (ls' := [_, _, _, _, _, _]) rfl rfl (by decide) rfl ?_
              refine aw rfl rfl ?_
              exact ihz (upd y z (ct z)) (fun s hs => by
                by_cases e : s = z
                · subst e; unfold upd; rw [if_pos rfl]; exact hE2 s (by omega)
                · unfold upd; rw [if_neg e]; exact hIz s (by omega))
            · skip
              refine aw rfl rfl ?_
              refine aw_c (v := nI 385) rfl (by decide) ?_
              refine aw_ige rfl (fun _ => ?_) (fun c => absurd (by decide) c)
              refine aw_incn (c := 1) (ls' := [_, _, _, _, _, _]) rfl rfl (by decide) rfl ?_
              refine aw rfl rfl ?_
              exact ihi (v, pl, br, lo, y, ct, E, some (.int (nI (S 4 * T.1 5 + i * T.1 5))), some (.int (nI 385))) ⟨hIz, hU2, by rw [hT2, hT, Nat.pow_succ, Nat.mul_comm], by rw [show S 4 * T.1 5 + (i + 1) * T.1 5 = S 4 * T.1 5 + i * T.1 5 + T.1 5 by rw [Nat.add_mul]; omega, hP2]; exact hP⟩
      · skip
        obtain ⟨v, pl, br, lo, c, ct, D, l4, l5⟩ := y
        obtain ⟨hD, hU, hT, hP⟩ := hI
        dsimp only at hD hU hT hP ⊢
        refine aw rfl rfl ?_
        refine aw rfl rfl ?_
        refine aw_igen rfl (fun c36 => ?_) (fun c36 => by omega)
        exact aw_vret rfl rfl (q _ _ _ _ _ _ D ⟨hD, hU, hT, hP⟩)
theorem c_X11_comes {Q : Option Value → am_H → Prop} (hM : MR k lv T W) (hG : GS T) (hN : NR T (k.2.1 53) S) (hS : SG T S) {y x z u : Int32} {b : Bool} (q : ∀ v pl br lo c ct, Q (some (.int (a_comes T (lwf W) S y x z u b))) (mh g k v pl br lo c ct pr pt cm bf bt)) : AC am_P 6 156 269 [.ref 121, .int y, .int x, .int z, .int u, .int (bI b)] (mh g k v pl br lo c ct pr pt cm bf bt) Q := by
  refine AC.of (ls := [_, _, _, _, _, _, _, _]) rfl ?_
  have hM0 := hM
  have hG0 := hG
  obtain ⟨m0, m1, mr, mw, mf, mk, mli, mt, ms, msq, moc, mwy, msp, mlw⟩ := hM
  obtain ⟨⟨g0, g0x⟩, ⟨g1, g1x⟩, ⟨g2, g2x⟩, ⟨g3, g3x⟩, g4, ⟨g5, g5x⟩, g6, gsq, goc, gwt, gsp, gfr⟩ := hG
  have hN0 := hN
  have hS0 := hS
  obtain ⟨n0, n1, n2, n3, n4, n5, n6, n7, n8⟩ := hN
  obtain ⟨s0, s1, s2, s3, s4, s5, s6⟩ := hS
  have hl96 := s0.1
  unfold a_comes at q
  refine aw rfl rfl ?_
  refine aw rfl rfl ?_
  refine aw rfl rfl ?_
  refine aw_cv (d1 := 2) (L1 := 42) rfl rfl mg_121 rfl rfl (by decide) (by decide) (Nat.le_of_ble_eq_true rfl) (c_X11_isRule hM0 hG0 (fun j n ej hj en hn => ?_) (fun p => ?_))
  · refine aw_eq rfl (fun c => absurd c (by decide)) (fun _ => ?_)
    subst ej en
    rw [kin_yes g3x hj, sp_in (Nat.zero_le _) hn (by decide)] at q
    refine aw rfl rfl ?_
    refine aw rfl rfl ?_
    refine aw rfl rfl ?_
    refine aw_cv (d1 := 1) (L1 := 22) rfl rfl mg_121 rfl rfl (by decide) (by decide) (Nat.le_of_ble_eq_true rfl) (c_X11_isPlace hM0 hG0 (fun a e ea ee ha he => ?_) (fun z => ?_))
    · refine aw_ne rfl (fun _ => ?_) (fun c => absurd c (by decide))
      subst ea ee
      rw [pl_yes g0x g1x ha he] at q
      refine aw rfl rfl ?_
      refine aw rfl rfl ?_
      refine aw rfl rfl ?_
      refine aw_cv (d1 := 5) (L1 := 131) rfl rfl mg_121 rfl rfl (by decide) (by decide) (Nat.le_of_ble_eq_true rfl) (c_X11_spreads (gl := fun l => decide (l / 3 = e * 8 + a)) hM0 hG0 hN0 hS0 hj hn (fun v pl br lo c ct D hI => ?_))
      obtain ⟨hD, hU, hT, hP⟩ := hI
      have h6 := p6_le hn
      have h6p := p6_pos n
      have hcm : cmN T (lwf W) S j n (e * 8 + a) = sm (fun i => D (12 * (e * 8 + a) + i)) 12 := by
        rw [Nat.sub_self, pV_sq (by omega)] at hP
        exact hP.symm
      have hle : sm (fun i => D (12 * (e * 8 + a) + i)) 12 ≤ 6 ^ n := by
        rw [← hcm]
        unfold cmN
        split
        · exact Nat.zero_le _
        · exact Fc_le hG0 (fun i z => by cases z; exact hj) _ _ _ _
      refine aw_c (v := nI 0) rfl (by decide) ?_
      refine aw_ist (ls' := [_, _, _, _, _, _, _, _]) rfl rfl ?_
      refine aw_c (v := nI 0) rfl (by decide) ?_
      refine aw_ist (ls' := [_, _, _, _, _, _, _, _]) rfl rfl ?_
      refine aw_loop (α := Unit) (ll := fun i y => [some (.ref 121), some (.int (nI j)), some (.int (nI n)), some (.int (nI a)), some (.int (nI e)), some (.int (bI b)), some (.int (nI (sm (fun i => D (12 * (e * 8 + a) + i)) i))), some (.int (nI i))]) (hh := fun i y => (mh g k v pl br lo c ct pr pt cm bf bt)) (I := fun i y => True) (N := 12) (fun i y hi hI ih => ?_) (fun y hI => ?_) 0 () (Nat.zero_le _) trivial
      · skip
        refine aw rfl rfl ?_
        refine aw_c (v := nI 12) rfl (by decide) ?_
        refine aw_igen rfl (fun c37 => by omega) (fun c37 => ?_)
        refine aw rfl rfl ?_
        refine aw rfl rfl ?_
        refine aw_getf rfl mg_121 rfl ?_
        refine aw rfl rfl ?_
        refine aw rfl rfl ?_
        refine aw_c (v := nI 0) rfl (by decide) ?_
        refine aw_c (v := nI 0) rfl (by decide) ?_
        refine aw_cs (d1 := 0) (L1 := 0) rfl rfl (by decide) (by decide) (Nat.le_of_ble_eq_true rfl) (c_X11_numberOf ?_)
        refine aw rfl rfl ?_
        refine aw_addn rfl ?_
        rw [show ((8 * e + a) * 3 + 0) * 4 + 0 + i = 12 * (e * 8 + a) + i by omega]
        refine aw_ialdE rfl mg_159 rfl (by omega) (by decide) (hD _ (by omega)) ?_
        refine aw_addn rfl ?_
        refine aw_ist (ls' := [_, _, _, _, _, _, _, _]) rfl rfl ?_
        refine aw_incn (c := 1) (ls' := [_, _, _, _, _, _, _, _]) rfl rfl (by decide) rfl ?_
        refine aw rfl rfl ?_
        exact ih () trivial
      · skip
        refine aw rfl rfl ?_
        refine aw_c (v := nI 12) rfl (by decide) ?_
        refine aw_ige rfl (fun _ => ?_) (fun c => absurd (by decide) c)
        refine aw rfl rfl ?_
        refine aw rfl rfl ?_
        refine aw_cs (d1 := 0) (L1 := 0) rfl rfl (by decide) (by decide) (Nat.le_of_ble_eq_true rfl) (c_sixes (by omega) ?_)
        refine aw rfl rfl ?_
        refine aw_cs (d1 := 1) (L1 := 24) rfl rfl (by decide) (by decide) (Nat.le_of_ble_eq_true rfl) (c_X11_lineOf (by omega) h6p (by omega) ?_)
        exact aw_iret rfl rfl (by rw [hcm] at q; exact q _ _ _ _ _ _)
    · refine aw_ne rfl (fun c => absurd (by decide) c) (fun _ => ?_)
      refine aw_c (v := -1) rfl (by decide) ?_
      exact aw_iret rfl rfl (by rw [pl_no z] at q; exact q _ _ _ _ _ _)
  · refine aw_eq rfl (fun _ => ?_) (fun c => absurd (by decide) c)
    refine aw_c (v := -1) rfl (by decide) ?_
    exact aw_iret rfl rfl (by rw [p] at q; exact q _ _ _ _ _ _)
end M1
end
