def RX0 : String := "StoneHome$Forecast"
def TX0 : u_T := fun k => match k with
  | 0 => ("StoneHome$Forecast", "table", "LStoneHome$Table;", true)
  | 1 => ("StoneHome$Forecast", "street", "LStoneHome$Street;", false)
  | 2 => ("StoneHome$Forecast", "chances", "[I", false)
  | 3 => ("StoneHome$Forecast", "later", "[I", false)
  | 4 => ("StoneHome$Forecast", "isReady", "Z", false)
  | 5 => ("StoneHome$Forecast", "readyStep", "I", false)
  | 6 => ("StoneHome$Forecast", "readySteps", "I", false)
  | 7 => ("StoneHome$Forecast", "readyRule", "I", false)
  | _ => ("StoneHome$Forecast", "readyGoal", "I", false)
def tyX0 : Nat → FieldType := fun k => match k with
  | 0 => .object "StoneHome$Table"
  | 1 => .object "StoneHome$Street"
  | 2 => .array .int
  | 3 => .array .int
  | 4 => .boolean
  | 5 => .int
  | 6 => .int
  | 7 => .int
  | _ => .int
abbrev wsX00 : List Cond := u_ws RX0 TX0 9
theorem nmX0 : ∀ a, a < 9 → ∀ b, b < 9 → a ≠ b → (TX0 a).2.1 ≠ (TX0 b).2.1 := by decide +kernel
theorem tyX0_ok : ∀ k, k < 9 → parseFieldDescriptor (TX0 k).2.2.1 = some (tyX0 k) := by decide +kernel
def RX1 : String := "StoneHome$Laws"
def TX1 : u_T := fun k => match k with
  | 0 => ("StoneHome$Laws", "steps", "[I", true)
  | 1 => ("StoneHome$Laws", "size", "I", false)
  | 2 => ("StoneHome$Laws", "starts", "[I", true)
  | 3 => ("StoneHome$Laws", "timed", "I", false)
  | 4 => ("StoneHome$Laws", "waiting", "[I", true)
  | 5 => ("StoneHome$Laws", "waitingSize", "I", false)
  | 6 => ("StoneHome$Laws", "facts", "[I", true)
  | _ => ("StoneHome$Laws", "stack", "[I", true)
def tyX1 : Nat → FieldType := fun k => match k with
  | 0 => .array .int
  | 1 => .int
  | 2 => .array .int
  | 3 => .int
  | 4 => .array .int
  | 5 => .int
  | 6 => .array .int
  | _ => .array .int
abbrev wsX10 : List Cond := u_ws RX1 TX1 8
theorem nmX1 : ∀ a, a < 8 → ∀ b, b < 8 → a ≠ b → (TX1 a).2.1 ≠ (TX1 b).2.1 := by decide +kernel
theorem tyX1_ok : ∀ k, k < 8 → parseFieldDescriptor (TX1 k).2.2.1 = some (tyX1 k) := by decide +kernel
def RX2 : String := "StoneHome$Past"
def TX2 : u_T := fun k => match k with
  | 0 => ("StoneHome$Past", "ring", "[LStoneHome$Stone;", true)
  | 1 => ("StoneHome$Past", "next", "I", false)
  | _ => ("StoneHome$Past", "size", "I", false)
def tyX2 : Nat → FieldType := fun k => match k with
  | 0 => .array (.object "StoneHome$Stone")
  | 1 => .int
  | _ => .int
abbrev wsX20 : List Cond := u_ws RX2 TX2 3
theorem nmX2 : ∀ a, a < 3 → ∀ b, b < 3 → a ≠ b → (TX2 a).2.1 ≠ (TX2 b).2.1 := by decide +kernel
theorem tyX2_ok : ∀ k, k < 3 → parseFieldDescriptor (TX2 k).2.2.1 = some (tyX2 k) := by decide +kernel
def RX3 : String := "StoneHome$Race"
def TX3 : u_T := fun k => match k with
  | 0 => ("StoneHome$Race", "table", "LStoneHome$Table;", true)
  | 1 => ("StoneHome$Race", "street", "LStoneHome$Street;", false)
  | 2 => ("StoneHome$Race", "odds", "[I", true)
  | 3 => ("StoneHome$Race", "line", "[I", true)
  | 4 => ("StoneHome$Race", "mySoonest", "[I", true)
  | _ => ("StoneHome$Race", "hisSoonest", "[I", true)
def tyX3 : Nat → FieldType := fun k => match k with
  | 0 => .object "StoneHome$Table"
  | 1 => .object "StoneHome$Street"
  | 2 => .array .int
  | 3 => .array .int
  | 4 => .array .int
  | _ => .array .int
abbrev wsX30 : List Cond := u_ws RX3 TX3 6
theorem nmX3 : ∀ a, a < 6 → ∀ b, b < 6 → a ≠ b → (TX3 a).2.1 ≠ (TX3 b).2.1 := by decide +kernel
theorem tyX3_ok : ∀ k, k < 6 → parseFieldDescriptor (TX3 k).2.2.1 = some (tyX3 k) := by decide +kernel
def RX4 : String := "StoneHome$Reader"
def TX4 : u_T := fun k => match k with
  | 0 => ("StoneHome$Reader", "tokens", "LStoneHome$Tokens;", true)
  | 1 => ("StoneHome$Reader", "street", "LStoneHome$Street;", false)
  | 2 => ("StoneHome$Reader", "taken", "I", false)
  | 3 => ("StoneHome$Reader", "kind", "I", false)
  | 4 => ("StoneHome$Reader", "from", "I", false)
  | 5 => ("StoneHome$Reader", "number", "I", false)
  | 6 => ("StoneHome$Reader", "law", "I", false)
  | 7 => ("StoneHome$Reader", "kickNames", "[J", true)
  | 8 => ("StoneHome$Reader", "fault", "I", false)
  | 9 => ("StoneHome$Reader", "faultAt", "I", false)
  | 10 => ("StoneHome$Reader", "lateFault", "I", false)
  | _ => ("StoneHome$Reader", "lateAt", "I", false)
def tyX4 : Nat → FieldType := fun k => match k with
  | 0 => .object "StoneHome$Tokens"
  | 1 => .object "StoneHome$Street"
  | 2 => .int
  | 3 => .int
  | 4 => .int
  | 5 => .int
  | 6 => .int
  | 7 => .array .long
  | 8 => .int
  | 9 => .int
  | 10 => .int
  | _ => .int
abbrev wsX40 : List Cond := u_ws RX4 TX4 12
theorem nmX4 : ∀ a, a < 12 → ∀ b, b < 12 → a ≠ b → (TX4 a).2.1 ≠ (TX4 b).2.1 := by decide +kernel
theorem tyX4_ok : ∀ k, k < 12 → parseFieldDescriptor (TX4 k).2.2.1 = some (tyX4 k) := by decide +kernel
def RX5 : String := "StoneHome$Scratches"
def TX5 : u_T := fun k => match k with
  | 0 => ("StoneHome$Scratches", "squares", "[I", true)
  | 1 => ("StoneHome$Scratches", "told", "I", false)
  | 2 => ("StoneHome$Scratches", "ways", "[I", true)
  | 3 => ("StoneHome$Scratches", "kicks", "I", false)
  | 4 => ("StoneHome$Scratches", "startSide", "I", false)
  | 5 => ("StoneHome$Scratches", "sides", "[I", true)
  | _ => ("StoneHome$Scratches", "sidesBehind", "[I", true)
def tyX5 : Nat → FieldType := fun k => match k with
  | 0 => .array .int
  | 1 => .int
  | 2 => .array .int
  | 3 => .int
  | 4 => .int
  | 5 => .array .int
  | _ => .array .int
abbrev wsX50 : List Cond := u_ws RX5 TX5 7
theorem nmX5 : ∀ a, a < 7 → ∀ b, b < 7 → a ≠ b → (TX5 a).2.1 ≠ (TX5 b).2.1 := by decide +kernel
theorem tyX5_ok : ∀ k, k < 7 → parseFieldDescriptor (TX5 k).2.2.1 = some (tyX5 k) := by decide +kernel
def RX6 : String := "StoneHome$Stone"
def TX6 : u_T := fun k => match k with
  | 0 => ("StoneHome$Stone", "square", "I", false)
  | 1 => ("StoneHome$Stone", "side", "I", false)
  | 2 => ("StoneHome$Stone", "lives", "I", false)
  | 3 => ("StoneHome$Stone", "livesLost", "I", false)
  | 4 => ("StoneHome$Stone", "done", "I", false)
  | 5 => ("StoneHome$Stone", "touches", "I", false)
  | 6 => ("StoneHome$Stone", "state", "I", false)
  | _ => ("StoneHome$Stone", "isHeld", "Z", false)
def tyX6 : Nat → FieldType := fun k => match k with
  | 0 => .int
  | 1 => .int
  | 2 => .int
  | 3 => .int
  | 4 => .int
  | 5 => .int
  | 6 => .int
  | _ => .boolean
abbrev wsX60 : List Cond := u_ws RX6 TX6 8
theorem nmX6 : ∀ a, a < 8 → ∀ b, b < 8 → a ≠ b → (TX6 a).2.1 ≠ (TX6 b).2.1 := by decide +kernel
theorem tyX6_ok : ∀ k, k < 8 → parseFieldDescriptor (TX6 k).2.2.1 = some (tyX6 k) := by decide +kernel
def RX7 : String := "StoneHome$Street"
def TX7 : u_T := fun k => match k with
  | 0 => ("StoneHome$Street", "length", "I", false)
  | 1 => ("StoneHome$Street", "rows", "I", false)
  | 2 => ("StoneHome$Street", "sorts", "[I", true)
  | 3 => ("StoneHome$Street", "faces", "I", false)
  | 4 => ("StoneHome$Street", "kicks", "I", false)
  | 5 => ("StoneHome$Street", "outcomes", "[I", true)
  | 6 => ("StoneHome$Street", "sixths", "[I", true)
  | 7 => ("StoneHome$Street", "far", "[I", true)
  | 8 => ("StoneHome$Street", "aside", "[I", true)
  | 9 => ("StoneHome$Street", "turns", "[I", true)
  | 10 => ("StoneHome$Street", "laws", "LStoneHome$Laws;", true)
  | 11 => ("StoneHome$Street", "stoneSpot", "[I", true)
  | 12 => ("StoneHome$Street", "friendSpot", "[I", true)
  | 13 => ("StoneHome$Street", "lives", "I", false)
  | 14 => ("StoneHome$Street", "takes", "I", false)
  | _ => ("StoneHome$Street", "seed", "I", false)
def tyX7 : Nat → FieldType := fun k => match k with
  | 0 => .int
  | 1 => .int
  | 2 => .array .int
  | 3 => .int
  | 4 => .int
  | 5 => .array .int
  | 6 => .array .int
  | 7 => .array .int
  | 8 => .array .int
  | 9 => .array .int
  | 10 => .object "StoneHome$Laws"
  | 11 => .array .int
  | 12 => .array .int
  | 13 => .int
  | 14 => .int
  | _ => .int
abbrev wsX70 : List Cond := u_ws RX7 TX7 16
theorem nmX7 : ∀ a, a < 16 → ∀ b, b < 16 → a ≠ b → (TX7 a).2.1 ≠ (TX7 b).2.1 := by decide +kernel
theorem tyX7_ok : ∀ k, k < 16 → parseFieldDescriptor (TX7 k).2.2.1 = some (tyX7 k) := by decide +kernel
def RX8 : String := "StoneHome$Table"
def TX8 : u_T := fun k => match k with
  | 0 => ("StoneHome$Table", "street", "LStoneHome$Street;", false)
  | 1 => ("StoneHome$Table", "rows", "[[I", true)
  | 2 => ("StoneHome$Table", "steps", "[I", true)
  | 3 => ("StoneHome$Table", "landings", "[I", false)
  | 4 => ("StoneHome$Table", "lies", "[I", true)
  | 5 => ("StoneHome$Table", "openLies", "I", false)
  | _ => ("StoneHome$Table", "allLies", "I", false)
def tyX8 : Nat → FieldType := fun k => match k with
  | 0 => .object "StoneHome$Street"
  | 1 => .array (.array .int)
  | 2 => .array .int
  | 3 => .array .int
  | 4 => .array .int
  | 5 => .int
  | _ => .int
abbrev wsX80 : List Cond := u_ws RX8 TX8 7
theorem nmX8 : ∀ a, a < 7 → ∀ b, b < 7 → a ≠ b → (TX8 a).2.1 ≠ (TX8 b).2.1 := by decide +kernel
theorem tyX8_ok : ∀ k, k < 7 → parseFieldDescriptor (TX8 k).2.2.1 = some (tyX8 k) := by decide +kernel
def RX9 : String := "StoneHome$Tokens"
def TX9 : u_T := fun k => match k with
  | 0 => ("StoneHome$Tokens", "kinds", "[I", true)
  | 1 => ("StoneHome$Tokens", "places", "[I", true)
  | 2 => ("StoneHome$Tokens", "numbers", "[I", true)
  | 3 => ("StoneHome$Tokens", "text", "[B", true)
  | 4 => ("StoneHome$Tokens", "size", "I", false)
  | 5 => ("StoneHome$Tokens", "at", "I", false)
  | 6 => ("StoneHome$Tokens", "kind", "I", false)
  | _ => ("StoneHome$Tokens", "number", "I", false)
def tyX9 : Nat → FieldType := fun k => match k with
  | 0 => .array .int
  | 1 => .array .int
  | 2 => .array .int
  | 3 => .array .byte
  | 4 => .int
  | 5 => .int
  | 6 => .int
  | _ => .int
abbrev wsX90 : List Cond := u_ws RX9 TX9 8
theorem nmX9 : ∀ a, a < 8 → ∀ b, b < 8 → a ≠ b → (TX9 a).2.1 ≠ (TX9 b).2.1 := by decide +kernel
theorem tyX9_ok : ∀ k, k < 8 → parseFieldDescriptor (TX9 k).2.2.1 = some (tyX9 k) := by decide +kernel
def RX10 : String := "StoneHome"
def TX10 : u_T := fun k => match k with
  | 0 => ("StoneHome", "tape", "[B", true)
  | 1 => ("StoneHome", "tapeSize", "I", false)
  | 2 => ("StoneHome", "faultPlace", "I", false)
  | 3 => ("StoneHome", "street", "LStoneHome$Street;", false)
  | 4 => ("StoneHome", "spare", "LStoneHome$Street;", false)
  | 5 => ("StoneHome", "reader", "LStoneHome$Reader;", true)
  | 6 => ("StoneHome", "stone", "LStoneHome$Stone;", true)
  | 7 => ("StoneHome", "past", "LStoneHome$Past;", true)
  | 8 => ("StoneHome", "slots", "[LStoneHome$Stone;", true)
  | 9 => ("StoneHome", "table", "LStoneHome$Table;", true)
  | 10 => ("StoneHome", "forecast", "LStoneHome$Forecast;", true)
  | 11 => ("StoneHome", "race", "LStoneHome$Race;", true)
  | _ => ("StoneHome", "scratches", "LStoneHome$Scratches;", true)
def tyX10 : Nat → FieldType := fun k => match k with
  | 0 => .array .byte
  | 1 => .int
  | 2 => .int
  | 3 => .object "StoneHome$Street"
  | 4 => .object "StoneHome$Street"
  | 5 => .object "StoneHome$Reader"
  | 6 => .object "StoneHome$Stone"
  | 7 => .object "StoneHome$Past"
  | 8 => .array (.object "StoneHome$Stone")
  | 9 => .object "StoneHome$Table"
  | 10 => .object "StoneHome$Forecast"
  | 11 => .object "StoneHome$Race"
  | _ => .object "StoneHome$Scratches"
abbrev wsX100 : List Cond := u_ws RX10 TX10 13
theorem nmX10 : ∀ a, a < 13 → ∀ b, b < 13 → a ≠ b → (TX10 a).2.1 ≠ (TX10 b).2.1 := by decide +kernel
theorem tyX10_ok : ∀ k, k < 13 → parseFieldDescriptor (TX10 k).2.2.1 = some (tyX10 k) := by decide +kernel
def RX11 : String := "StoneHomeModel"
def TX11 : u_T := fun k => match k with
  | 0 => ("StoneHomeModel", "thrown", "I", false)
  | 1 => ("StoneHomeModel", "tape", "[B", true)
  | 2 => ("StoneHomeModel", "taped", "I", false)
  | 3 => ("StoneHomeModel", "text", "[B", true)
  | 4 => ("StoneHomeModel", "size", "I", false)
  | 5 => ("StoneHomeModel", "tKind", "[I", true)
  | 6 => ("StoneHomeModel", "tPlace", "[I", true)
  | 7 => ("StoneHomeModel", "tValue", "[I", true)
  | 8 => ("StoneHomeModel", "tName", "[J", true)
  | 9 => ("StoneHomeModel", "keys", "[J", true)
  | 10 => ("StoneHomeModel", "tokens", "I", false)
  | 11 => ("StoneHomeModel", "t", "I", false)
  | 12 => ("StoneHomeModel", "open", "I", false)
  | 13 => ("StoneHomeModel", "fault", "I", false)
  | 14 => ("StoneHomeModel", "faultPlace", "I", false)
  | 15 => ("StoneHomeModel", "worst", "I", false)
  | 16 => ("StoneHomeModel", "worstPlace", "I", false)
  | 17 => ("StoneHomeModel", "place", "I", false)
  | 18 => ("StoneHomeModel", "live", "I", false)
  | 19 => ("StoneHomeModel", "side", "I", false)
  | 20 => ("StoneHomeModel", "names", "I", false)
  | 21 => ("StoneHomeModel", "nameOf", "[J", true)
  | 22 => ("StoneHomeModel", "rows", "[I", true)
  | 23 => ("StoneHomeModel", "wide", "[I", true)
  | 24 => ("StoneHomeModel", "squareOf", "[I", true)
  | 25 => ("StoneHomeModel", "faces", "[I", true)
  | 26 => ("StoneHomeModel", "kicks", "[I", true)
  | 27 => ("StoneHomeModel", "outcomes", "[I", true)
  | 28 => ("StoneHomeModel", "sixths", "[I", true)
  | 29 => ("StoneHomeModel", "byAlong", "[I", true)
  | 30 => ("StoneHomeModel", "byAcross", "[I", true)
  | 31 => ("StoneHomeModel", "turns", "[I", true)
  | 32 => ("StoneHomeModel", "stone", "[I", true)
  | 33 => ("StoneHomeModel", "friend", "[I", true)
  | 34 => ("StoneHomeModel", "livesTold", "[I", true)
  | 35 => ("StoneHomeModel", "takes", "[I", true)
  | 36 => ("StoneHomeModel", "seed", "[I", true)
  | 37 => ("StoneHomeModel", "lawFirst", "[I", true)
  | 38 => ("StoneHomeModel", "lawLast", "[I", true)
  | 39 => ("StoneHomeModel", "branches", "I", false)
  | 40 => ("StoneHomeModel", "hasTest", "[Z", true)
  | 41 => ("StoneHomeModel", "testFrom", "[I", true)
  | 42 => ("StoneHomeModel", "testMid", "[I", true)
  | 43 => ("StoneHomeModel", "testTo", "[I", true)
  | 44 => ("StoneHomeModel", "termTo", "[I", true)
  | 45 => ("StoneHomeModel", "codes", "I", false)
  | 46 => ("StoneHomeModel", "code", "[I", true)
  | 47 => ("StoneHomeModel", "codeInt", "[I", true)
  | 48 => ("StoneHomeModel", "waits", "[I", true)
  | 49 => ("StoneHomeModel", "waiting", "I", false)
  | 50 => ("StoneHomeModel", "variables", "[I", true)
  | 51 => ("StoneHomeModel", "pile", "[I", true)
  | 52 => ("StoneHomeModel", "isBroken", "Z", false)
  | 53 => ("StoneHomeModel", "now", "[I", true)
  | 54 => ("StoneHomeModel", "row", "[I", true)
  | 55 => ("StoneHomeModel", "isLosing", "Z", false)
  | 56 => ("StoneHomeModel", "chance", "[I", true)
  | 57 => ("StoneHomeModel", "chanceThen", "[I", true)
  | 58 => ("StoneHomeModel", "undos", "I", false)
  | 59 => ("StoneHomeModel", "history", "[I", true)
  | 60 => ("StoneHomeModel", "pair", "[I", true)
  | 61 => ("StoneHomeModel", "pairThen", "[I", true)
  | 62 => ("StoneHomeModel", "cameTo", "[I", true)
  | 63 => ("StoneHomeModel", "told", "I", false)
  | 64 => ("StoneHomeModel", "toldAlong", "[I", true)
  | 65 => ("StoneHomeModel", "toldAcross", "[I", true)
  | 66 => ("StoneHomeModel", "byFace", "[I", true)
  | 67 => ("StoneHomeModel", "byFaceThen", "[I", true)
  | 68 => ("StoneHomeModel", "isHeld", "[Z", true)
  | _ => ("StoneHomeModel", "heldRows", "[I", true)
def tyX11 : Nat → FieldType := fun k => match k with
  | 0 => .int
  | 1 => .array .byte
  | 2 => .int
  | 3 => .array .byte
  | 4 => .int
  | 5 => .array .int
  | 6 => .array .int
  | 7 => .array .int
  | 8 => .array .long
  | 9 => .array .long
  | 10 => .int
  | 11 => .int
  | 12 => .int
  | 13 => .int
  | 14 => .int
  | 15 => .int
  | 16 => .int
  | 17 => .int
  | 18 => .int
  | 19 => .int
  | 20 => .int
  | 21 => .array .long
  | 22 => .array .int
  | 23 => .array .int
  | 24 => .array .int
  | 25 => .array .int
  | 26 => .array .int
  | 27 => .array .int
  | 28 => .array .int
  | 29 => .array .int
  | 30 => .array .int
  | 31 => .array .int
  | 32 => .array .int
  | 33 => .array .int
  | 34 => .array .int
  | 35 => .array .int
  | 36 => .array .int
  | 37 => .array .int
  | 38 => .array .int
  | 39 => .int
  | 40 => .array .boolean
  | 41 => .array .int
  | 42 => .array .int
  | 43 => .array .int
  | 44 => .array .int
  | 45 => .int
  | 46 => .array .int
  | 47 => .array .int
  | 48 => .array .int
  | 49 => .int
  | 50 => .array .int
  | 51 => .array .int
  | 52 => .boolean
  | 53 => .array .int
  | 54 => .array .int
  | 55 => .boolean
  | 56 => .array .int
  | 57 => .array .int
  | 58 => .int
  | 59 => .array .int
  | 60 => .array .int
  | 61 => .array .int
  | 62 => .array .int
  | 63 => .int
  | 64 => .array .int
  | 65 => .array .int
  | 66 => .array .int
  | 67 => .array .int
  | 68 => .array .boolean
  | _ => .array .int
abbrev wsX110 : List Cond := u_ws RX11 TX11 70
theorem nmX11 : ∀ a, a < 70 → ∀ b, b < 70 → a ≠ b → (TX11 a).2.1 ≠ (TX11 b).2.1 := by decide +kernel
theorem tyX11_ok : ∀ k, k < 70 → parseFieldDescriptor (TX11 k).2.2.1 = some (tyX11 k) := by decide +kernel
def RJ11 : String := "java/lang/Character"
def RJ9 : String := "java/lang/Math"
def RJ0 : String := "java/lang/String"
def RJ1 : String := "java/lang/StringLatin1"
def RJ2 : String := "java/lang/StringUTF16"
def RJ10 : String := "java/lang/System"
def RJ7 : String := "java/util/Arrays"
def RJ3 : String := "jdk/internal/util/Preconditions"
def RL : String := "StoneHomeLaw"
abbrev am_cl : List vw_C := [(RX0, TX0, 9), (RX1, TX1, 8), (RX2, TX2, 3), (RX3, TX3, 6), (RX4, TX4, 12), (RX5, TX5, 7), (RX6, TX6, 8), (RX7, TX7, 16), (RX8, TX8, 7), (RX9, TX9, 8), (RX10, TX10, 13), (RX11, TX11, 70)]
/-- a class' name by its number -/
def am_cn : Nat → String
  | 0 => RX0 | 1 => RX1 | 2 => RX2 | 3 => RX3 | 4 => RX4 | 5 => RX5 | 6 => RX6 | 7 => RX7 | 8 => RX8 | 9 => RX9 | 10 => RX10 | 11 => RX11
  | 12 => RL | 13 => RJ7 | 14 => RJ9 | 15 => RJ0 | _ => RJ1
/-- how many fields, and of which types -/
def am_nf : Nat → Nat
  | 0 => 9 | 1 => 8 | 2 => 3 | 3 => 6 | 4 => 12 | 5 => 7 | 6 => 8 | 7 => 16 | 8 => 7 | 9 => 8 | 10 => 13 | 11 => 70 | _ => 0
def am_ft : Nat → Nat → FieldType
  | 0 => tyX0 | 1 => tyX1 | 2 => tyX2 | 3 => tyX3 | 4 => tyX4 | 5 => tyX5 | 6 => tyX6 | 7 => tyX7 | 8 => tyX8 | 9 => tyX9 | 10 => tyX10 | _ => tyX11
def am_tb : Nat → u_T
  | 0 => TX0 | 1 => TX1 | 2 => TX2 | 3 => TX3 | 4 => TX4 | 5 => TX5 | 6 => TX6 | 7 => TX7 | 8 => TX8 | 9 => TX9 | 10 => TX10 | _ => TX11
/-- an object's fields as they are born -/
def am_df (c : Nat) : List Value := (List.range (am_nf c)).map (fun k => defaultValue (am_ft c k))
theorem am_clAt : ∀ c, c < 12 → am_cl[c]? = some (am_cn c, am_tb c, am_nf c) := by
  intro c hc
  rcases (show c = 0 ∨ c = 1 ∨ c = 2 ∨ c = 3 ∨ c = 4 ∨ c = 5 ∨ c = 6 ∨ c = 7 ∨ c = 8 ∨ c = 9 ∨ c = 10 ∨ c = 11 by omega) with h | h | h | h | h | h | h | h | h | h | h | h <;> subst h <;> rfl
theorem am_nmAt : ∀ c, c < 12 → ∀ a, a < am_nf c → ∀ b, b < am_nf c → a ≠ b → (am_tb c a).2.1 ≠ (am_tb c b).2.1 := by
  intro c hc
  rcases (show c = 0 ∨ c = 1 ∨ c = 2 ∨ c = 3 ∨ c = 4 ∨ c = 5 ∨ c = 6 ∨ c = 7 ∨ c = 8 ∨ c = 9 ∨ c = 10 ∨ c = 11 by omega) with h | h | h | h | h | h | h | h | h | h | h | h <;> subst h
  · exact nmX0
  · exact nmX1
  · exact nmX2
  · exact nmX3
  · exact nmX4
  · exact nmX5
  · exact nmX6
  · exact nmX7
  · exact nmX8
  · exact nmX9
  · exact nmX10
  · exact nmX11
theorem am_tyAt : ∀ c, c < 12 → ∀ k, k < am_nf c → parseFieldDescriptor (am_tb c k).2.2.1 = some (am_ft c k) := by
  intro c hc
  rcases (show c = 0 ∨ c = 1 ∨ c = 2 ∨ c = 3 ∨ c = 4 ∨ c = 5 ∨ c = 6 ∨ c = 7 ∨ c = 8 ∨ c = 9 ∨ c = 10 ∨ c = 11 by omega) with h | h | h | h | h | h | h | h | h | h | h | h <;> subst h
  · exact tyX0_ok
  · exact tyX1_ok
  · exact tyX2_ok
  · exact tyX3_ok
  · exact tyX4_ok
  · exact tyX5_ok
  · exact tyX6_ok
  · exact tyX7_ok
  · exact tyX8_ok
  · exact tyX9_ok
  · exact tyX10_ok
  · exact tyX11_ok
