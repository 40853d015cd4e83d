def RX0 : String := "EndingMarket$Affairs"
def TX0 : u_T := fun k => match k with
  | 0 => ("EndingMarket$Affairs", "facts", "LEndingMarket$Facts;", true)
  | 1 => ("EndingMarket$Affairs", "day", "I", false)
  | 2 => ("EndingMarket$Affairs", "coin", "[I", true)
  | 3 => ("EndingMarket$Affairs", "bought", "[I", true)
  | 4 => ("EndingMarket$Affairs", "puts", "[I", true)
  | 5 => ("EndingMarket$Affairs", "amounts", "[I", true)
  | 6 => ("EndingMarket$Affairs", "holder", "[I", true)
  | 7 => ("EndingMarket$Affairs", "price", "[I", true)
  | 8 => ("EndingMarket$Affairs", "place", "[I", true)
  | 9 => ("EndingMarket$Affairs", "putDay", "[I", true)
  | 10 => ("EndingMarket$Affairs", "wentOn", "[I", true)
  | 11 => ("EndingMarket$Affairs", "sold", "[I", true)
  | _ => ("EndingMarket$Affairs", "shut", "[I", true)
def tyX0 : Nat → FieldType := fun k => match k with
  | 0 => .object "EndingMarket$Facts"
  | 1 => .int
  | 2 => .array .int
  | 3 => .array .int
  | 4 => .array .int
  | 5 => .array .int
  | 6 => .array .int
  | 7 => .array .int
  | 8 => .array .int
  | 9 => .array .int
  | 10 => .array .int
  | 11 => .array .int
  | _ => .array .int
abbrev wsX00 : List Cond := u_ws RX0 TX0 13
theorem nmX0 : ∀ a, a < 13 → ∀ b, b < 13 → a ≠ b → (TX0 a).2.1 ≠ (TX0 b).2.1 := by decide +kernel
theorem tyX0_ok : ∀ k, k < 13 → parseFieldDescriptor (TX0 k).2.2.1 = some (tyX0 k) := by decide +kernel
def RX1 : String := "EndingMarket$Draws"
def TX1 : u_T := fun k => match k with
  | _ => ("EndingMarket$Draws", "seed", "I", false)
def tyX1 : Nat → FieldType := fun k => match k with
  | _ => .int
abbrev wsX10 : List Cond := u_ws RX1 TX1 1
theorem nmX1 : ∀ a, a < 1 → ∀ b, b < 1 → a ≠ b → (TX1 a).2.1 ≠ (TX1 b).2.1 := by decide +kernel
theorem tyX1_ok : ∀ k, k < 1 → parseFieldDescriptor (TX1 k).2.2.1 = some (tyX1 k) := by decide +kernel
def RX2 : String := "EndingMarket$Facts"
def TX2 : u_T := fun k => match k with
  | 0 => ("EndingMarket$Facts", "kinds", "I", false)
  | 1 => ("EndingMarket$Facts", "men", "I", false)
  | 2 => ("EndingMarket$Facts", "things", "I", false)
  | 3 => ("EndingMarket$Facts", "endings", "I", false)
  | 4 => ("EndingMarket$Facts", "lines", "I", false)
  | 5 => ("EndingMarket$Facts", "dusk", "I", false)
  | 6 => ("EndingMarket$Facts", "names", "I", false)
  | 7 => ("EndingMarket$Facts", "nameLetters", "[J", true)
  | 8 => ("EndingMarket$Facts", "nameSort", "[I", true)
  | 9 => ("EndingMarket$Facts", "nameNumber", "[I", true)
  | 10 => ("EndingMarket$Facts", "coin", "[I", true)
  | 11 => ("EndingMarket$Facts", "thingMan", "[I", true)
  | 12 => ("EndingMarket$Facts", "thingOpen", "[I", true)
  | 13 => ("EndingMarket$Facts", "endingMan", "[I", true)
  | 14 => ("EndingMarket$Facts", "endingPrice", "[I", true)
  | 15 => ("EndingMarket$Facts", "endingCloses", "[I", true)
  | _ => ("EndingMarket$Facts", "falseDays", "[I", true)
def tyX2 : Nat → FieldType := fun k => match k with
  | 0 => .int
  | 1 => .int
  | 2 => .int
  | 3 => .int
  | 4 => .int
  | 5 => .int
  | 6 => .int
  | 7 => .array .long
  | 8 => .array .int
  | 9 => .array .int
  | 10 => .array .int
  | 11 => .array .int
  | 12 => .array .int
  | 13 => .array .int
  | 14 => .array .int
  | 15 => .array .int
  | _ => .array .int
abbrev wsX20 : List Cond := u_ws RX2 TX2 17
theorem nmX2 : ∀ a, a < 17 → ∀ b, b < 17 → a ≠ b → (TX2 a).2.1 ≠ (TX2 b).2.1 := by decide +kernel
theorem tyX2_ok : ∀ k, k < 17 → parseFieldDescriptor (TX2 k).2.2.1 = some (tyX2 k) := by decide +kernel
def RX3 : String := "EndingMarket$Image"
def TX3 : u_T := fun k => match k with
  | 0 => ("EndingMarket$Image", "facts", "LEndingMarket$Facts;", true)
  | 1 => ("EndingMarket$Image", "affairs", "LEndingMarket$Affairs;", true)
  | 2 => ("EndingMarket$Image", "claim", "LEndingMarket$Sentence;", true)
  | _ => ("EndingMarket$Image", "kept", "Z", false)
def tyX3 : Nat → FieldType := fun k => match k with
  | 0 => .object "EndingMarket$Facts"
  | 1 => .object "EndingMarket$Affairs"
  | 2 => .object "EndingMarket$Sentence"
  | _ => .boolean
abbrev wsX30 : List Cond := u_ws RX3 TX3 4
theorem nmX3 : ∀ a, a < 4 → ∀ b, b < 4 → a ≠ b → (TX3 a).2.1 ≠ (TX3 b).2.1 := by decide +kernel
theorem tyX3_ok : ∀ k, k < 4 → parseFieldDescriptor (TX3 k).2.2.1 = some (tyX3 k) := by decide +kernel
def RX4 : String := "EndingMarket$Ledger"
def TX4 : u_T := fun k => match k with
  | 0 => ("EndingMarket$Ledger", "lines", "I", false)
  | 1 => ("EndingMarket$Ledger", "deed", "[I", true)
  | 2 => ("EndingMarket$Ledger", "man", "[I", true)
  | 3 => ("EndingMarket$Ledger", "ending", "[I", true)
  | 4 => ("EndingMarket$Ledger", "thing", "[I", true)
  | 5 => ("EndingMarket$Ledger", "going", "[I", true)
  | 6 => ("EndingMarket$Ledger", "judged", "Z", false)
  | 7 => ("EndingMarket$Ledger", "why", "I", false)
  | 8 => ("EndingMarket$Ledger", "ahead", "I", false)
  | 9 => ("EndingMarket$Ledger", "dayThen", "I", false)
  | _ => ("EndingMarket$Ledger", "endedThen", "I", false)
def tyX4 : Nat → FieldType := fun k => match k with
  | 0 => .int
  | 1 => .array .int
  | 2 => .array .int
  | 3 => .array .int
  | 4 => .array .int
  | 5 => .array .int
  | 6 => .boolean
  | 7 => .int
  | 8 => .int
  | 9 => .int
  | _ => .int
abbrev wsX40 : List Cond := u_ws RX4 TX4 11
theorem nmX4 : ∀ a, a < 11 → ∀ b, b < 11 → a ≠ b → (TX4 a).2.1 ≠ (TX4 b).2.1 := by decide +kernel
theorem tyX4_ok : ∀ k, k < 11 → parseFieldDescriptor (TX4 k).2.2.1 = some (tyX4 k) := by decide +kernel
def RX5 : String := "EndingMarket$Matches"
def TX5 : u_T := fun k => match k with
  | 0 => ("EndingMarket$Matches", "facts", "LEndingMarket$Facts;", true)
  | 1 => ("EndingMarket$Matches", "affairs", "LEndingMarket$Affairs;", true)
  | 2 => ("EndingMarket$Matches", "need", "[I", true)
  | 3 => ("EndingMarket$Matches", "needs", "I", false)
  | 4 => ("EndingMarket$Matches", "may", "[I", true)
  | 5 => ("EndingMarket$Matches", "rest", "[I", true)
  | 6 => ("EndingMarket$Matches", "given", "[I", true)
  | _ => ("EndingMarket$Matches", "cover", "I", false)
def tyX5 : Nat → FieldType := fun k => match k with
  | 0 => .object "EndingMarket$Facts"
  | 1 => .object "EndingMarket$Affairs"
  | 2 => .array .int
  | 3 => .int
  | 4 => .array .int
  | 5 => .array .int
  | 6 => .array .int
  | _ => .int
abbrev wsX50 : List Cond := u_ws RX5 TX5 8
theorem nmX5 : ∀ a, a < 8 → ∀ b, b < 8 → a ≠ b → (TX5 a).2.1 ≠ (TX5 b).2.1 := by decide +kernel
theorem tyX5_ok : ∀ k, k < 8 → parseFieldDescriptor (TX5 k).2.2.1 = some (tyX5 k) := by decide +kernel
def RX6 : String := "EndingMarket$Orders"
def TX6 : u_T := fun k => match k with
  | 0 => ("EndingMarket$Orders", "facts", "LEndingMarket$Facts;", true)
  | 1 => ("EndingMarket$Orders", "affairs", "LEndingMarket$Affairs;", true)
  | 2 => ("EndingMarket$Orders", "row", "[I", true)
  | 3 => ("EndingMarket$Orders", "rowLength", "I", false)
  | 4 => ("EndingMarket$Orders", "sums", "[I", true)
  | 5 => ("EndingMarket$Orders", "left", "[I", true)
  | 6 => ("EndingMarket$Orders", "lastPage", "[I", true)
  | _ => ("EndingMarket$Orders", "pagesPut", "I", false)
def tyX6 : Nat → FieldType := fun k => match k with
  | 0 => .object "EndingMarket$Facts"
  | 1 => .object "EndingMarket$Affairs"
  | 2 => .array .int
  | 3 => .int
  | 4 => .array .int
  | 5 => .array .int
  | 6 => .array .int
  | _ => .int
abbrev wsX60 : List Cond := u_ws RX6 TX6 8
theorem nmX6 : ∀ a, a < 8 → ∀ b, b < 8 → a ≠ b → (TX6 a).2.1 ≠ (TX6 b).2.1 := by decide +kernel
theorem tyX6_ok : ∀ k, k < 8 → parseFieldDescriptor (TX6 k).2.2.1 = some (tyX6 k) := by decide +kernel
def RX7 : String := "EndingMarket$Past"
def TX7 : u_T := fun k => match k with
  | 0 => ("EndingMarket$Past", "kept", "[LEndingMarket$Affairs;", true)
  | 1 => ("EndingMarket$Past", "size", "I", false)
  | _ => ("EndingMarket$Past", "next", "I", false)
def tyX7 : Nat → FieldType := fun k => match k with
  | 0 => .array (.object "EndingMarket$Affairs")
  | 1 => .int
  | _ => .int
abbrev wsX70 : List Cond := u_ws RX7 TX7 3
theorem nmX7 : ∀ a, a < 3 → ∀ b, b < 3 → a ≠ b → (TX7 a).2.1 ≠ (TX7 b).2.1 := by decide +kernel
theorem tyX7_ok : ∀ k, k < 3 → parseFieldDescriptor (TX7 k).2.2.1 = some (tyX7 k) := by decide +kernel
def RX8 : String := "EndingMarket$Rings"
def TX8 : u_T := fun k => match k with
  | 0 => ("EndingMarket$Rings", "facts", "LEndingMarket$Facts;", true)
  | 1 => ("EndingMarket$Rings", "affairs", "LEndingMarket$Affairs;", true)
  | 2 => ("EndingMarket$Rings", "brought", "[I", true)
  | 3 => ("EndingMarket$Rings", "pointsAt", "[I", true)
  | 4 => ("EndingMarket$Rings", "won", "[I", true)
  | _ => ("EndingMarket$Rings", "left", "I", false)
def tyX8 : Nat → FieldType := fun k => match k with
  | 0 => .object "EndingMarket$Facts"
  | 1 => .object "EndingMarket$Affairs"
  | 2 => .array .int
  | 3 => .array .int
  | 4 => .array .int
  | _ => .int
abbrev wsX80 : List Cond := u_ws RX8 TX8 6
theorem nmX8 : ∀ a, a < 6 → ∀ b, b < 6 → a ≠ b → (TX8 a).2.1 ≠ (TX8 b).2.1 := by decide +kernel
theorem tyX8_ok : ∀ k, k < 6 → parseFieldDescriptor (TX8 k).2.2.1 = some (tyX8 k) := by decide +kernel
def RX9 : String := "EndingMarket$Sentence"
def TX9 : u_T := fun k => match k with
  | 0 => ("EndingMarket$Sentence", "ones", "I", false)
  | 1 => ("EndingMarket$Sentence", "parts", "I", false)
  | 2 => ("EndingMarket$Sentence", "part", "[I", true)
  | 3 => ("EndingMarket$Sentence", "named", "[I", true)
  | _ => ("EndingMarket$Sentence", "number", "[I", true)
def tyX9 : Nat → FieldType := fun k => match k with
  | 0 => .int
  | 1 => .int
  | 2 => .array .int
  | 3 => .array .int
  | _ => .array .int
abbrev wsX90 : List Cond := u_ws RX9 TX9 5
theorem nmX9 : ∀ a, a < 5 → ∀ b, b < 5 → a ≠ b → (TX9 a).2.1 ≠ (TX9 b).2.1 := by decide +kernel
theorem tyX9_ok : ∀ k, k < 5 → parseFieldDescriptor (TX9 k).2.2.1 = some (tyX9 k) := by decide +kernel
def RX10 : String := "EndingMarket$Tape"
def TX10 : u_T := fun k => match k with
  | 0 => ("EndingMarket$Tape", "bytes", "[I", true)
  | 1 => ("EndingMarket$Tape", "words", "[J", true)
  | 2 => ("EndingMarket$Tape", "size", "I", false)
  | 3 => ("EndingMarket$Tape", "most", "I", false)
  | 4 => ("EndingMarket$Tape", "next", "I", false)
  | 5 => ("EndingMarket$Tape", "token", "I", false)
  | 6 => ("EndingMarket$Tape", "place", "I", false)
  | 7 => ("EndingMarket$Tape", "letters", "J", false)
  | 8 => ("EndingMarket$Tape", "key", "I", false)
  | 9 => ("EndingMarket$Tape", "value", "I", false)
  | 10 => ("EndingMarket$Tape", "faultKind", "I", false)
  | _ => ("EndingMarket$Tape", "faultPlace", "I", false)
def tyX10 : Nat → FieldType := fun k => match k with
  | 0 => .array .int
  | 1 => .array .long
  | 2 => .int
  | 3 => .int
  | 4 => .int
  | 5 => .int
  | 6 => .int
  | 7 => .long
  | 8 => .int
  | 9 => .int
  | 10 => .int
  | _ => .int
abbrev wsX100 : List Cond := u_ws RX10 TX10 12
theorem nmX10 : ∀ a, a < 12 → ∀ b, b < 12 → a ≠ b → (TX10 a).2.1 ≠ (TX10 b).2.1 := by decide +kernel
theorem tyX10_ok : ∀ k, k < 12 → parseFieldDescriptor (TX10 k).2.2.1 = some (tyX10 k) := by decide +kernel
def RX11 : String := "EndingMarket"
def TX11 : u_T := fun k => match k with
  | 0 => ("EndingMarket", "tape", "LEndingMarket$Tape;", true)
  | 1 => ("EndingMarket", "facts", "LEndingMarket$Facts;", true)
  | 2 => ("EndingMarket", "newFacts", "LEndingMarket$Facts;", true)
  | 3 => ("EndingMarket", "affairs", "LEndingMarket$Affairs;", true)
  | 4 => ("EndingMarket", "trial", "LEndingMarket$Affairs;", true)
  | 5 => ("EndingMarket", "past", "LEndingMarket$Past;", true)
  | 6 => ("EndingMarket", "claim", "LEndingMarket$Sentence;", true)
  | 7 => ("EndingMarket", "newClaim", "LEndingMarket$Sentence;", true)
  | 8 => ("EndingMarket", "book", "LEndingMarket$Ledger;", true)
  | 9 => ("EndingMarket", "orders", "LEndingMarket$Orders;", true)
  | 10 => ("EndingMarket", "matches", "LEndingMarket$Matches;", true)
  | 11 => ("EndingMarket", "rings", "LEndingMarket$Rings;", true)
  | 12 => ("EndingMarket", "draws", "LEndingMarket$Draws;", true)
  | 13 => ("EndingMarket", "images", "[LEndingMarket$Image;", true)
  | 14 => ("EndingMarket", "faultKind", "I", false)
  | 15 => ("EndingMarket", "askedKind", "I", false)
  | _ => ("EndingMarket", "haggledRounds", "I", false)
def tyX11 : Nat → FieldType := fun k => match k with
  | 0 => .object "EndingMarket$Tape"
  | 1 => .object "EndingMarket$Facts"
  | 2 => .object "EndingMarket$Facts"
  | 3 => .object "EndingMarket$Affairs"
  | 4 => .object "EndingMarket$Affairs"
  | 5 => .object "EndingMarket$Past"
  | 6 => .object "EndingMarket$Sentence"
  | 7 => .object "EndingMarket$Sentence"
  | 8 => .object "EndingMarket$Ledger"
  | 9 => .object "EndingMarket$Orders"
  | 10 => .object "EndingMarket$Matches"
  | 11 => .object "EndingMarket$Rings"
  | 12 => .object "EndingMarket$Draws"
  | 13 => .array (.object "EndingMarket$Image")
  | 14 => .int
  | 15 => .int
  | _ => .int
abbrev wsX110 : List Cond := u_ws RX11 TX11 17
theorem nmX11 : ∀ a, a < 17 → ∀ b, b < 17 → a ≠ b → (TX11 a).2.1 ≠ (TX11 b).2.1 := by decide +kernel
theorem tyX11_ok : ∀ k, k < 17 → parseFieldDescriptor (TX11 k).2.2.1 = some (tyX11 k) := by decide +kernel
def RX12 : String := "EndingMarketModel"
def TX12 : u_T := fun k => match k with
  | 0 => ("EndingMarketModel", "thrown", "I", false)
  | 1 => ("EndingMarketModel", "tape", "[B", true)
  | 2 => ("EndingMarketModel", "length", "I", false)
  | 3 => ("EndingMarketModel", "size", "I", false)
  | 4 => ("EndingMarketModel", "p", "I", false)
  | 5 => ("EndingMarketModel", "limit", "I", false)
  | 6 => ("EndingMarketModel", "s", "[I", true)
  | 7 => ("EndingMarketModel", "h", "[I", true)
  | 8 => ("EndingMarketModel", "read", "[I", true)
  | 9 => ("EndingMarketModel", "names", "[J", true)
  | 10 => ("EndingMarketModel", "reserved", "[J", true)
  | 11 => ("EndingMarketModel", "token", "I", false)
  | 12 => ("EndingMarketModel", "at", "I", false)
  | 13 => ("EndingMarketModel", "span", "I", false)
  | 14 => ("EndingMarketModel", "number", "I", false)
  | 15 => ("EndingMarketModel", "fault", "I", false)
  | 16 => ("EndingMarketModel", "faultAt", "I", false)
  | 17 => ("EndingMarketModel", "word", "J", false)
  | 18 => ("EndingMarketModel", "got", "I", false)
  | 19 => ("EndingMarketModel", "lines", "I", false)
  | 20 => ("EndingMarketModel", "hasDusk", "Z", false)
  | 21 => ("EndingMarketModel", "undone", "[I", true)
  | 22 => ("EndingMarketModel", "before", "[I", true)
  | 23 => ("EndingMarketModel", "undoMany", "I", false)
  | 24 => ("EndingMarketModel", "can", "[Z", true)
  | 25 => ("EndingMarketModel", "rowAt", "[I", true)
  | 26 => ("EndingMarketModel", "rowMany", "I", false)
  | 27 => ("EndingMarketModel", "leads", "[Z", true)
  | 28 => ("EndingMarketModel", "street", "[I", true)
  | 29 => ("EndingMarketModel", "streetAt", "[I", true)
  | 30 => ("EndingMarketModel", "streetThings", "I", false)
  | 31 => ("EndingMarketModel", "traySet", "I", false)
  | 32 => ("EndingMarketModel", "hasTray", "Z", false)
  | 33 => ("EndingMarketModel", "askKind", "I", false)
  | 34 => ("EndingMarketModel", "hasWas", "Z", false)
  | 35 => ("EndingMarketModel", "meetRound", "I", false)
  | 36 => ("EndingMarketModel", "hasMet", "Z", false)
  | 37 => ("EndingMarketModel", "brings", "[I", true)
  | 38 => ("EndingMarketModel", "has", "[I", true)
  | 39 => ("EndingMarketModel", "points", "[I", true)
  | 40 => ("EndingMarketModel", "seed", "I", false)
  | 41 => ("EndingMarketModel", "toldMany", "I", false)
  | 42 => ("EndingMarketModel", "toldAt", "[I", true)
  | 43 => ("EndingMarketModel", "hasTold", "Z", false)
  | 44 => ("EndingMarketModel", "stack", "[I", true)
  | 45 => ("EndingMarketModel", "codes", "I", false)
  | 46 => ("EndingMarketModel", "ones", "I", false)
  | 47 => ("EndingMarketModel", "top", "I", false)
  | 48 => ("EndingMarketModel", "deep", "I", false)
  | 49 => ("EndingMarketModel", "isWhole", "Z", false)
  | 50 => ("EndingMarketModel", "truths", "[Z", true)
  | 51 => ("EndingMarketModel", "kept", "[I", true)
  | 52 => ("EndingMarketModel", "namesKept", "[J", true)
  | _ => ("EndingMarketModel", "areKept", "[Z", true)
def tyX12 : Nat → FieldType := fun k => match k with
  | 0 => .int
  | 1 => .array .byte
  | 2 => .int
  | 3 => .int
  | 4 => .int
  | 5 => .int
  | 6 => .array .int
  | 7 => .array .int
  | 8 => .array .int
  | 9 => .array .long
  | 10 => .array .long
  | 11 => .int
  | 12 => .int
  | 13 => .int
  | 14 => .int
  | 15 => .int
  | 16 => .int
  | 17 => .long
  | 18 => .int
  | 19 => .int
  | 20 => .boolean
  | 21 => .array .int
  | 22 => .array .int
  | 23 => .int
  | 24 => .array .boolean
  | 25 => .array .int
  | 26 => .int
  | 27 => .array .boolean
  | 28 => .array .int
  | 29 => .array .int
  | 30 => .int
  | 31 => .int
  | 32 => .boolean
  | 33 => .int
  | 34 => .boolean
  | 35 => .int
  | 36 => .boolean
  | 37 => .array .int
  | 38 => .array .int
  | 39 => .array .int
  | 40 => .int
  | 41 => .int
  | 42 => .array .int
  | 43 => .boolean
  | 44 => .array .int
  | 45 => .int
  | 46 => .int
  | 47 => .int
  | 48 => .int
  | 49 => .boolean
  | 50 => .array .boolean
  | 51 => .array .int
  | 52 => .array .long
  | _ => .array .boolean
abbrev wsX120 : List Cond := u_ws RX12 TX12 54
theorem nmX12 : ∀ a, a < 54 → ∀ b, b < 54 → a ≠ b → (TX12 a).2.1 ≠ (TX12 b).2.1 := by decide +kernel
theorem tyX12_ok : ∀ k, k < 54 → parseFieldDescriptor (TX12 k).2.2.1 = some (tyX12 k) := by decide +kernel
abbrev a_cl : List vw_C := [(RX0, TX0, 13), (RX1, TX1, 1), (RX2, TX2, 17), (RX3, TX3, 4), (RX4, TX4, 11), (RX5, TX5, 8), (RX6, TX6, 8), (RX7, TX7, 3), (RX8, TX8, 6), (RX9, TX9, 5), (RX10, TX10, 12), (RX11, TX11, 17), (RX12, TX12, 54)]
set_option maxRecDepth 100000 in
theorem a_in0 : ∀ w ∈ u_ws RX0 TX0 13, w ∈ lw_tbl.filter goodWord := fun w hw => by
  have h : (u_ws RX0 TX0 13).all (fun w => decide (w ∈ lw_tbl) && goodWord w) = true := by decide +kernel
  have h1 := List.all_eq_true.mp h w hw
  simp only [Bool.and_eq_true, decide_eq_true_eq] at h1
  exact List.mem_filter.mpr h1
set_option maxRecDepth 100000 in
theorem a_in1 : ∀ w ∈ u_ws RX1 TX1 1, w ∈ lw_tbl.filter goodWord := fun w hw => by
  have h : (u_ws RX1 TX1 1).all (fun w => decide (w ∈ lw_tbl) && goodWord w) = true := by decide +kernel
  have h1 := List.all_eq_true.mp h w hw
  simp only [Bool.and_eq_true, decide_eq_true_eq] at h1
  exact List.mem_filter.mpr h1
set_option maxRecDepth 100000 in
theorem a_in2 : ∀ w ∈ u_ws RX2 TX2 17, w ∈ lw_tbl.filter goodWord := fun w hw => by
  have h : (u_ws RX2 TX2 17).all (fun w => decide (w ∈ lw_tbl) && goodWord w) = true := by decide +kernel
  have h1 := List.all_eq_true.mp h w hw
  simp only [Bool.and_eq_true, decide_eq_true_eq] at h1
  exact List.mem_filter.mpr h1
set_option maxRecDepth 100000 in
theorem a_in3 : ∀ w ∈ u_ws RX3 TX3 4, w ∈ lw_tbl.filter goodWord := fun w hw => by
  have h : (u_ws RX3 TX3 4).all (fun w => decide (w ∈ lw_tbl) && goodWord w) = true := by decide +kernel
  have h1 := List.all_eq_true.mp h w hw
  simp only [Bool.and_eq_true, decide_eq_true_eq] at h1
  exact List.mem_filter.mpr h1
set_option maxRecDepth 100000 in
theorem a_in4 : ∀ w ∈ u_ws RX4 TX4 11, w ∈ lw_tbl.filter goodWord := fun w hw => by
  have h : (u_ws RX4 TX4 11).all (fun w => decide (w ∈ lw_tbl) && goodWord w) = true := by decide +kernel
  have h1 := List.all_eq_true.mp h w hw
  simp only [Bool.and_eq_true, decide_eq_true_eq] at h1
  exact List.mem_filter.mpr h1
set_option maxRecDepth 100000 in
theorem a_in5 : ∀ w ∈ u_ws RX5 TX5 8, w ∈ lw_tbl.filter goodWord := fun w hw => by
  have h : (u_ws RX5 TX5 8).all (fun w => decide (w ∈ lw_tbl) && goodWord w) = true := by decide +kernel
  have h1 := List.all_eq_true.mp h w hw
  simp only [Bool.and_eq_true, decide_eq_true_eq] at h1
  exact List.mem_filter.mpr h1
set_option maxRecDepth 100000 in
theorem a_in6 : ∀ w ∈ u_ws RX6 TX6 8, w ∈ lw_tbl.filter goodWord := fun w hw => by
  have h : (u_ws RX6 TX6 8).all (fun w => decide (w ∈ lw_tbl) && goodWord w) = true := by decide +kernel
  have h1 := List.all_eq_true.mp h w hw
  simp only [Bool.and_eq_true, decide_eq_true_eq] at h1
  exact List.mem_filter.mpr h1
set_option maxRecDepth 100000 in
theorem a_in7 : ∀ w ∈ u_ws RX7 TX7 3, w ∈ lw_tbl.filter goodWord := fun w hw => by
  have h : (u_ws RX7 TX7 3).all (fun w => decide (w ∈ lw_tbl) && goodWord w) = true := by decide +kernel
  have h1 := List.all_eq_true.mp h w hw
  simp only [Bool.and_eq_true, decide_eq_true_eq] at h1
  exact List.mem_filter.mpr h1
set_option maxRecDepth 100000 in
theorem a_in8 : ∀ w ∈ u_ws RX8 TX8 6, w ∈ lw_tbl.filter goodWord := fun w hw => by
  have h : (u_ws RX8 TX8 6).all (fun w => decide (w ∈ lw_tbl) && goodWord w) = true := by decide +kernel
  have h1 := List.all_eq_true.mp h w hw
  simp only [Bool.and_eq_true, decide_eq_true_eq] at h1
  exact List.mem_filter.mpr h1
set_option maxRecDepth 100000 in
theorem a_in9 : ∀ w ∈ u_ws RX9 TX9 5, w ∈ lw_tbl.filter goodWord := fun w hw => by
  have h : (u_ws RX9 TX9 5).all (fun w => decide (w ∈ lw_tbl) && goodWord w) = true := by decide +kernel
  have h1 := List.all_eq_true.mp h w hw
  simp only [Bool.and_eq_true, decide_eq_true_eq] at h1
  exact List.mem_filter.mpr h1
set_option maxRecDepth 100000 in
theorem a_in10 : ∀ w ∈ u_ws RX10 TX10 12, w ∈ lw_tbl.filter goodWord := fun w hw => by
  have h : (u_ws RX10 TX10 12).all (fun w => decide (w ∈ lw_tbl) && goodWord w) = true := by decide +kernel
  have h1 := List.all_eq_true.mp h w hw
  simp only [Bool.and_eq_true, decide_eq_true_eq] at h1
  exact List.mem_filter.mpr h1
set_option maxRecDepth 100000 in
theorem a_in11 : ∀ w ∈ u_ws RX11 TX11 17, w ∈ lw_tbl.filter goodWord := fun w hw => by
  have h : (u_ws RX11 TX11 17).all (fun w => decide (w ∈ lw_tbl) && goodWord w) = true := by decide +kernel
  have h1 := List.all_eq_true.mp h w hw
  simp only [Bool.and_eq_true, decide_eq_true_eq] at h1
  exact List.mem_filter.mpr h1
set_option maxRecDepth 100000 in
theorem a_in12 : ∀ w ∈ u_ws RX12 TX12 54, w ∈ lw_tbl.filter goodWord := fun w hw => by
  have h : (u_ws RX12 TX12 54).all (fun w => decide (w ∈ lw_tbl) && goodWord w) = true := by decide +kernel
  have h1 := List.all_eq_true.mp h w hw
  simp only [Bool.and_eq_true, decide_eq_true_eq] at h1
  exact List.mem_filter.mpr h1
