/-! names of the classes, their fields, the strings: written by wip/whole/gen/gen.py out of the tables -/
def RX0 : String := "DebtorsHouse$Act"
def TX0 : u_T := fun k => match k with
  | 0 => ("DebtorsHouse$Act", "from", "I", true)
  | 1 => ("DebtorsHouse$Act", "told", "I", true)
  | 2 => ("DebtorsHouse$Act", "lines", "[I", true)
  | _ => ("DebtorsHouse$Act", "lineCount", "I", true)
def kdX0 : List Nat := [0, 0, 2, 0]
def RX1 : String := "DebtorsHouse$Debts"
def TX1 : u_T := fun k => match k with
  | 0 => ("DebtorsHouse$Debts", "size", "I", false)
  | 1 => ("DebtorsHouse$Debts", "debtor", "[I", true)
  | 2 => ("DebtorsHouse$Debts", "creditor", "[I", true)
  | 3 => ("DebtorsHouse$Debts", "sum", "[I", true)
  | 4 => ("DebtorsHouse$Debts", "rank", "[I", true)
  | 5 => ("DebtorsHouse$Debts", "rate", "[I", true)
  | 6 => ("DebtorsHouse$Debts", "since", "[I", true)
  | 7 => ("DebtorsHouse$Debts", "told", "[I", true)
  | 8 => ("DebtorsHouse$Debts", "state", "[I", true)
  | 9 => ("DebtorsHouse$Debts", "principal", "[I", true)
  | 10 => ("DebtorsHouse$Debts", "interest", "[I", true)
  | 11 => ("DebtorsHouse$Debts", "reckonedOn", "[I", true)
  | 12 => ("DebtorsHouse$Debts", "costs", "[I", true)
  | 13 => ("DebtorsHouse$Debts", "bought", "[I", true)
  | 14 => ("DebtorsHouse$Debts", "lack", "[I", true)
  | _ => ("DebtorsHouse$Debts", "ended", "[I", true)
def kdX1 : List Nat := [0, 2, 2, 2, 2, 2, 2, 2, 2, 2, 2, 2, 2, 2, 2, 2]
def RX2 : String := "DebtorsHouse$Freeing"
def TX2 : u_T := fun k => match k with
  | 0 => ("DebtorsHouse$Freeing", "most", "I", false)
  | 1 => ("DebtorsHouse$Freeing", "mostSet", "I", false)
  | 2 => ("DebtorsHouse$Freeing", "mostPurse", "J", false)
  | 3 => ("DebtorsHouse$Freeing", "size", "I", false)
  | 4 => ("DebtorsHouse$Freeing", "who", "[I", true)
  | 5 => ("DebtorsHouse$Freeing", "needs", "[J", true)
  | 6 => ("DebtorsHouse$Freeing", "pays", "[J", true)
  | _ => ("DebtorsHouse$Freeing", "purseOf", "[J", true)
def kdX2 : List Nat := [0, 0, 1, 0, 2, 2, 2, 2]
def RX3 : String := "DebtorsHouse$House"
def TX3 : u_T := fun k => match k with
  | 0 => ("DebtorsHouse$House", "people", "LDebtorsHouse$People;", true)
  | 1 => ("DebtorsHouse$House", "debts", "LDebtorsHouse$Debts;", true)
  | 2 => ("DebtorsHouse$House", "acts", "[LDebtorsHouse$Act;", true)
  | 3 => ("DebtorsHouse$House", "actCount", "I", false)
  | 4 => ("DebtorsHouse$House", "day", "I", false)
  | 5 => ("DebtorsHouse$House", "hour", "I", false)
  | 6 => ("DebtorsHouse$House", "feesPaid", "I", false)
  | 7 => ("DebtorsHouse$House", "bookRows", "I", false)
  | 8 => ("DebtorsHouse$House", "belowWhole", "[I", true)
  | 9 => ("DebtorsHouse$House", "tape", "[B", true)
  | 10 => ("DebtorsHouse$House", "tapeLength", "I", false)
  | 11 => ("DebtorsHouse$House", "fault", "I", false)
  | 12 => ("DebtorsHouse$House", "faultPlace", "I", false)
  | 13 => ("DebtorsHouse$House", "row", "[I", true)
  | _ => ("DebtorsHouse$House", "rowLength", "I", false)
def kdX3 : List Nat := [2, 2, 2, 0, 0, 0, 0, 0, 2, 2, 0, 0, 0, 2, 0]
def RX4 : String := "DebtorsHouse$Law"
def TX4 : u_T := fun k => match k with
  | _ => ("DebtorsHouse$Law", "facts", "[I", true)
def kdX4 : List Nat := [2]
def RX5 : String := "DebtorsHouse$Parting"
def TX5 : u_T := fun k => match k with
  | 0 => ("DebtorsHouse$Parting", "claim", "[I", true)
  | 1 => ("DebtorsHouse$Parting", "share", "[I", true)
  | _ => ("DebtorsHouse$Parting", "rest", "[J", true)
def kdX5 : List Nat := [2, 2, 2]
def RX6 : String := "DebtorsHouse$People"
def TX6 : u_T := fun k => match k with
  | 0 => ("DebtorsHouse$People", "size", "I", false)
  | 1 => ("DebtorsHouse$People", "coins", "[I", true)
  | 2 => ("DebtorsHouse$People", "children", "[I", true)
  | 3 => ("DebtorsHouse$People", "heldSince", "[I", true)
  | 4 => ("DebtorsHouse$People", "room", "[I", true)
  | 5 => ("DebtorsHouse$People", "fees", "[I", true)
  | 6 => ("DebtorsHouse$People", "out", "[I", true)
  | 7 => ("DebtorsHouse$People", "late", "[I", true)
  | 8 => ("DebtorsHouse$People", "turns", "[I", true)
  | 9 => ("DebtorsHouse$People", "escapes", "[I", true)
  | 10 => ("DebtorsHouse$People", "detainers", "[I", true)
  | 11 => ("DebtorsHouse$People", "surrendered", "[I", true)
  | 12 => ("DebtorsHouse$People", "bookSum", "[I", true)
  | _ => ("DebtorsHouse$People", "concealed", "[I", true)
def kdX6 : List Nat := [0, 2, 2, 2, 2, 2, 2, 2, 2, 2, 2, 2, 2, 2]
def RX7 : String := "DebtorsHouse$Reader"
def TX7 : u_T := fun k => match k with
  | 0 => ("DebtorsHouse$Reader", "fault", "I", false)
  | 1 => ("DebtorsHouse$Reader", "faultPlace", "I", false)
  | 2 => ("DebtorsHouse$Reader", "lineCount", "I", false)
  | 3 => ("DebtorsHouse$Reader", "lines", "[I", true)
  | 4 => ("DebtorsHouse$Reader", "text", "[B", false)
  | 5 => ("DebtorsHouse$Reader", "length", "I", false)
  | 6 => ("DebtorsHouse$Reader", "kind", "I", false)
  | 7 => ("DebtorsHouse$Reader", "from", "I", false)
  | 8 => ("DebtorsHouse$Reader", "behind", "I", false)
  | _ => ("DebtorsHouse$Reader", "value", "I", false)
def kdX7 : List Nat := [0, 0, 0, 2, 2, 0, 0, 0, 0, 0]
def RX8 : String := "DebtorsHouse$Rings"
def TX8 : u_T := fun k => match k with
  | _ => ("DebtorsHouse$Rings", "steps", "[I", true)
def kdX8 : List Nat := [2]
def RX9 : String := "DebtorsHouse$Swing"
def TX9 : u_T := fun k => match k with
  | 0 => ("DebtorsHouse$Swing", "cheapest", "J", false)
  | 1 => ("DebtorsHouse$Swing", "cheapestSet", "I", false)
  | 2 => ("DebtorsHouse$Swing", "vote", "LDebtorsHouse$Vote;", false)
  | 3 => ("DebtorsHouse$Swing", "friend", "I", false)
  | 4 => ("DebtorsHouse$Swing", "size", "I", false)
  | 5 => ("DebtorsHouse$Swing", "price", "J", false)
  | 6 => ("DebtorsHouse$Swing", "seller", "[I", true)
  | 7 => ("DebtorsHouse$Swing", "due", "[I", true)
  | 8 => ("DebtorsHouse$Swing", "cost", "[I", true)
  | _ => ("DebtorsHouse$Swing", "counted", "[Z", true)
def kdX9 : List Nat := [1, 0, 2, 0, 0, 1, 2, 2, 2, 2]
def RX10 : String := "DebtorsHouse$Vote"
def TX10 : u_T := fun k => match k with
  | 0 => ("DebtorsHouse$Vote", "debtor", "I", false)
  | 1 => ("DebtorsHouse$Vote", "boughtCount", "Z", false)
  | 2 => ("DebtorsHouse$Vote", "number", "I", false)
  | 3 => ("DebtorsHouse$Vote", "worth", "I", false)
  | 4 => ("DebtorsHouse$Vote", "counted", "[I", true)
  | 5 => ("DebtorsHouse$Vote", "signs", "[Z", true)
  | 6 => ("DebtorsHouse$Vote", "voters", "I", false)
  | 7 => ("DebtorsHouse$Vote", "signers", "I", false)
  | 8 => ("DebtorsHouse$Vote", "allWorth", "J", false)
  | _ => ("DebtorsHouse$Vote", "signedWorth", "J", false)
def kdX10 : List Nat := [0, 3, 0, 0, 2, 2, 0, 0, 1, 1]
def RX11 : String := "DebtorsHouse"
def TX11 : u_T := fun k => match k with
  | 0 => ("DebtorsHouse", "now", "LDebtorsHouse$House;", true)
  | 1 => ("DebtorsHouse", "images", "[LDebtorsHouse$House;", true)
  | 2 => ("DebtorsHouse", "law", "LDebtorsHouse$Law;", true)
  | 3 => ("DebtorsHouse", "reader", "LDebtorsHouse$Reader;", true)
  | 4 => ("DebtorsHouse", "rings", "LDebtorsHouse$Rings;", true)
  | 5 => ("DebtorsHouse", "vote", "LDebtorsHouse$Vote;", true)
  | 6 => ("DebtorsHouse", "swings", "LDebtorsHouse$Swing;", true)
  | 7 => ("DebtorsHouse", "parting", "LDebtorsHouse$Parting;", true)
  | _ => ("DebtorsHouse", "freeing", "LDebtorsHouse$Freeing;", true)
def kdX11 : List Nat := [2, 2, 2, 2, 2, 2, 2, 2, 2]
def RX12 : String := "DebtorsHouseModel"
def TX12 : u_T := fun k => match k with
  | 0 => ("DebtorsHouseModel", "code", "I", false)
  | 1 => ("DebtorsHouseModel", "tape", "[B", true)
  | 2 => ("DebtorsHouseModel", "size", "[I", true)
  | 3 => ("DebtorsHouseModel", "fault", "[I", true)
  | 4 => ("DebtorsHouseModel", "faultPlace", "[I", true)
  | 5 => ("DebtorsHouseModel", "days", "[I", true)
  | 6 => ("DebtorsHouseModel", "hours", "[I", true)
  | 7 => ("DebtorsHouseModel", "feesPaid", "[I", true)
  | 8 => ("DebtorsHouseModel", "persons", "[I", true)
  | 9 => ("DebtorsHouseModel", "coins", "[I", true)
  | 10 => ("DebtorsHouseModel", "children", "[I", true)
  | 11 => ("DebtorsHouseModel", "isHeld", "[Z", true)
  | 12 => ("DebtorsHouseModel", "heldSince", "[I", true)
  | 13 => ("DebtorsHouseModel", "rooms", "[I", true)
  | 14 => ("DebtorsHouseModel", "fees", "[I", true)
  | 15 => ("DebtorsHouseModel", "isOut", "[Z", true)
  | 16 => ("DebtorsHouseModel", "late", "[I", true)
  | 17 => ("DebtorsHouseModel", "turns", "[I", true)
  | 18 => ("DebtorsHouseModel", "escaped", "[I", true)
  | 19 => ("DebtorsHouseModel", "detains", "[I", true)
  | 20 => ("DebtorsHouseModel", "surrendered", "[Z", true)
  | 21 => ("DebtorsHouseModel", "bookSum", "[I", true)
  | 22 => ("DebtorsHouseModel", "bookLow", "[I", true)
  | 23 => ("DebtorsHouseModel", "bookRows", "[I", true)
  | 24 => ("DebtorsHouseModel", "leasts", "[I", true)
  | 25 => ("DebtorsHouseModel", "debts", "[I", true)
  | 26 => ("DebtorsHouseModel", "debtor", "[I", true)
  | 27 => ("DebtorsHouseModel", "creditor", "[I", true)
  | 28 => ("DebtorsHouseModel", "sums", "[I", true)
  | 29 => ("DebtorsHouseModel", "rank", "[I", true)
  | 30 => ("DebtorsHouseModel", "rate", "[I", true)
  | 31 => ("DebtorsHouseModel", "since", "[I", true)
  | 32 => ("DebtorsHouseModel", "toldOn", "[I", true)
  | 33 => ("DebtorsHouseModel", "state", "[I", true)
  | 34 => ("DebtorsHouseModel", "principal", "[I", true)
  | 35 => ("DebtorsHouseModel", "keptInterest", "[I", true)
  | 36 => ("DebtorsHouseModel", "reckoned", "[I", true)
  | 37 => ("DebtorsHouseModel", "costs", "[I", true)
  | 38 => ("DebtorsHouseModel", "bought", "[Z", true)
  | 39 => ("DebtorsHouseModel", "lack", "[I", true)
  | 40 => ("DebtorsHouseModel", "endedOn", "[I", true)
  | 41 => ("DebtorsHouseModel", "handMany", "[I", true)
  | 42 => ("DebtorsHouseModel", "hand", "[I", true)
  | 43 => ("DebtorsHouseModel", "acts", "[I", true)
  | 44 => ("DebtorsHouseModel", "actFrom", "[I", true)
  | 45 => ("DebtorsHouseModel", "actTold", "[I", true)
  | 46 => ("DebtorsHouseModel", "actLines", "[I", true)
  | 47 => ("DebtorsHouseModel", "lineTopic", "[I", true)
  | 48 => ("DebtorsHouseModel", "lineTests", "[I", true)
  | 49 => ("DebtorsHouseModel", "lineValue", "[I", true)
  | 50 => ("DebtorsHouseModel", "testWhat", "[I", true)
  | 51 => ("DebtorsHouseModel", "testSign", "[I", true)
  | 52 => ("DebtorsHouseModel", "testThan", "[I", true)
  | 53 => ("DebtorsHouseModel", "trail", "[I", true)
  | 54 => ("DebtorsHouseModel", "ahead", "I", false)
  | 55 => ("DebtorsHouseModel", "length", "I", false)
  | 56 => ("DebtorsHouseModel", "begins", "I", false)
  | 57 => ("DebtorsHouseModel", "sort", "I", false)
  | 58 => ("DebtorsHouseModel", "value", "I", false)
  | 59 => ("DebtorsHouseModel", "word", "J", false)
  | 60 => ("DebtorsHouseModel", "wrongAt", "I", false)
  | 61 => ("DebtorsHouseModel", "laterFault", "I", false)
  | 62 => ("DebtorsHouseModel", "laterPlace", "I", false)
  | 63 => ("DebtorsHouseModel", "newLines", "I", false)
  | 64 => ("DebtorsHouseModel", "newTopic", "[I", true)
  | 65 => ("DebtorsHouseModel", "newTests", "[I", true)
  | 66 => ("DebtorsHouseModel", "newValue", "[I", true)
  | 67 => ("DebtorsHouseModel", "newWhat", "[I", true)
  | 68 => ("DebtorsHouseModel", "newSign", "[I", true)
  | 69 => ("DebtorsHouseModel", "newThan", "[I", true)
  | 70 => ("DebtorsHouseModel", "seen", "[I", true)
  | 71 => ("DebtorsHouseModel", "whose", "[I", true)
  | 72 => ("DebtorsHouseModel", "counts", "[Z", true)
  | 73 => ("DebtorsHouseModel", "might", "[I", true)
  | 74 => ("DebtorsHouseModel", "wants", "[I", true)
  | 75 => ("DebtorsHouseModel", "gets", "[I", true)
  | 76 => ("DebtorsHouseModel", "rest", "[J", true)
  | 77 => ("DebtorsHouseModel", "whom", "[I", true)
  | 78 => ("DebtorsHouseModel", "given", "[I", true)
  | _ => ("DebtorsHouseModel", "kept", "[Z", true)
def kdX12 : List Nat := [0, 2, 2, 2, 2, 2, 2, 2, 2, 2, 2, 2, 2, 2, 2, 2, 2, 2, 2, 2, 2, 2, 2, 2, 2, 2, 2, 2, 2, 2, 2, 2, 2, 2, 2, 2, 2, 2, 2, 2, 2, 2, 2, 2, 2, 2, 2, 2, 2, 2, 2, 2, 2, 2, 0, 0, 0, 0, 0, 1, 0, 0, 0, 0, 2, 2, 2, 2, 2, 2, 2, 2, 2, 2, 2, 2, 2, 2, 2, 2]
abbrev clz : List vw_C := [(RX0, TX0, 4), (RX1, TX1, 16), (RX2, TX2, 8), (RX3, TX3, 15), (RX4, TX4, 1), (RX5, TX5, 3), (RX6, TX6, 14), (RX7, TX7, 10), (RX8, TX8, 1), (RX9, TX9, 10), (RX10, TX10, 10), (RX11, TX11, 9), (RX12, TX12, 80)]
def kdz : List (List Nat) := [kdX0, kdX1, kdX2, kdX3, kdX4, kdX5, kdX6, kdX7, kdX8, kdX9, kdX10, kdX11, kdX12]
def bytJS : List (List Int32) := [[104, 101, 108, 100, 32, 101, 110, 116, 114, 121, 32, 100, 97, 105, 108, 121, 32, 119, 97, 108, 107, 32, 110, 117, 109, 98, 101, 114, 32, 119, 111, 114, 116, 104, 32, 98, 117, 121, 101, 114, 32, 107, 101, 101, 112, 32, 111, 112, 101, 110, 115], [105, 102], [97, 110, 100], [110, 111, 116], [115, 117, 109, 32, 100, 101, 98, 116, 115, 32, 114, 97, 110, 107, 32, 100, 97, 121, 115, 32, 99, 104, 105, 108, 100, 114, 101, 110, 32, 114, 111, 111, 109, 32, 104, 111, 117, 114, 32, 99, 111, 105, 110, 115], [110, 111, 32, 121, 101, 115]]
def lenJS : List Nat := [51, 2, 3, 3, 44, 6]
def strJS : List (Nat × String) := [(52, "held entry daily walk number worth buyer keep opens"), (80, "if"), (82, "and"), (91, "not"), (93, "sum debts rank days children room hour coins"), (102, "no yes")]
theorem inX0 : ∀ w ∈ u_ws RX0 TX0 4, w ∈ lw_tbl := fun w h => by
  have e : u_ws RX0 TX0 4 = [875, 877, 879, 881].filterMap (fun i => lw_tbl[i]?) := by decide +kernel
  rw [e] at h; obtain ⟨i, -, hi⟩ := List.mem_filterMap.mp h; exact List.mem_of_getElem? hi
theorem nmX0 : ∀ a, a < 4 → ∀ b, b < 4 → a ≠ b → (TX0 a).2.1 ≠ (TX0 b).2.1 := by decide +kernel
theorem inX1 : ∀ w ∈ u_ws RX1 TX1 16, w ∈ lw_tbl := fun w h => by
  have e : u_ws RX1 TX1 16 = [243, 245, 247, 249, 251, 253, 255, 257, 259, 261, 263, 265, 267, 269, 271, 273].filterMap (fun i => lw_tbl[i]?) := by decide +kernel
  rw [e] at h; obtain ⟨i, -, hi⟩ := List.mem_filterMap.mp h; exact List.mem_of_getElem? hi
theorem nmX1 : ∀ a, a < 16 → ∀ b, b < 16 → a ≠ b → (TX1 a).2.1 ≠ (TX1 b).2.1 := by decide +kernel
theorem inX2 : ∀ w ∈ u_ws RX2 TX2 8, w ∈ lw_tbl := fun w h => by
  have e : u_ws RX2 TX2 8 = [529, 531, 533, 535, 537, 539, 541, 543].filterMap (fun i => lw_tbl[i]?) := by decide +kernel
  rw [e] at h; obtain ⟨i, -, hi⟩ := List.mem_filterMap.mp h; exact List.mem_of_getElem? hi
theorem nmX2 : ∀ a, a < 8 → ∀ b, b < 8 → a ≠ b → (TX2 a).2.1 ≠ (TX2 b).2.1 := by decide +kernel
theorem inX3 : ∀ w ∈ u_ws RX3 TX3 15, w ∈ lw_tbl := fun w h => by
  have e : u_ws RX3 TX3 15 = [320, 322, 324, 326, 328, 330, 332, 334, 336, 338, 340, 342, 344, 346, 348].filterMap (fun i => lw_tbl[i]?) := by decide +kernel
  rw [e] at h; obtain ⟨i, -, hi⟩ := List.mem_filterMap.mp h; exact List.mem_of_getElem? hi
theorem nmX3 : ∀ a, a < 15 → ∀ b, b < 15 → a ≠ b → (TX3 a).2.1 ≠ (TX3 b).2.1 := by decide +kernel
theorem inX4 : ∀ w ∈ u_ws RX4 TX4 1, w ∈ lw_tbl := fun w h => by
  have e : u_ws RX4 TX4 1 = [360].filterMap (fun i => lw_tbl[i]?) := by decide +kernel
  rw [e] at h; obtain ⟨i, -, hi⟩ := List.mem_filterMap.mp h; exact List.mem_of_getElem? hi
theorem nmX4 : ∀ a, a < 1 → ∀ b, b < 1 → a ≠ b → (TX4 a).2.1 ≠ (TX4 b).2.1 := by decide +kernel
theorem inX5 : ∀ w ∈ u_ws RX5 TX5 3, w ∈ lw_tbl := fun w h => by
  have e : u_ws RX5 TX5 3 = [504, 506, 508].filterMap (fun i => lw_tbl[i]?) := by decide +kernel
  rw [e] at h; obtain ⟨i, -, hi⟩ := List.mem_filterMap.mp h; exact List.mem_of_getElem? hi
theorem nmX5 : ∀ a, a < 3 → ∀ b, b < 3 → a ≠ b → (TX5 a).2.1 ≠ (TX5 b).2.1 := by decide +kernel
theorem inX6 : ∀ w ∈ u_ws RX6 TX6 14, w ∈ lw_tbl := fun w h => by
  have e : u_ws RX6 TX6 14 = [161, 163, 165, 167, 169, 171, 173, 175, 177, 179, 181, 183, 185, 187].filterMap (fun i => lw_tbl[i]?) := by decide +kernel
  rw [e] at h; obtain ⟨i, -, hi⟩ := List.mem_filterMap.mp h; exact List.mem_of_getElem? hi
theorem nmX6 : ∀ a, a < 14 → ∀ b, b < 14 → a ≠ b → (TX6 a).2.1 ≠ (TX6 b).2.1 := by decide +kernel
theorem inX7 : ∀ w ∈ u_ws RX7 TX7 10, w ∈ lw_tbl := fun w h => by
  have e : u_ws RX7 TX7 10 = [383, 385, 387, 389, 391, 393, 395, 397, 399, 401].filterMap (fun i => lw_tbl[i]?) := by decide +kernel
  rw [e] at h; obtain ⟨i, -, hi⟩ := List.mem_filterMap.mp h; exact List.mem_of_getElem? hi
theorem nmX7 : ∀ a, a < 10 → ∀ b, b < 10 → a ≠ b → (TX7 a).2.1 ≠ (TX7 b).2.1 := by decide +kernel
theorem inX8 : ∀ w ∈ u_ws RX8 TX8 1, w ∈ lw_tbl := fun w h => by
  have e : u_ws RX8 TX8 1 = [411].filterMap (fun i => lw_tbl[i]?) := by decide +kernel
  rw [e] at h; obtain ⟨i, -, hi⟩ := List.mem_filterMap.mp h; exact List.mem_of_getElem? hi
theorem nmX8 : ∀ a, a < 1 → ∀ b, b < 1 → a ≠ b → (TX8 a).2.1 ≠ (TX8 b).2.1 := by decide +kernel
theorem inX9 : ∀ w ∈ u_ws RX9 TX9 10, w ∈ lw_tbl := fun w h => by
  have e : u_ws RX9 TX9 10 = [472, 474, 476, 478, 480, 482, 484, 486, 488, 490].filterMap (fun i => lw_tbl[i]?) := by decide +kernel
  rw [e] at h; obtain ⟨i, -, hi⟩ := List.mem_filterMap.mp h; exact List.mem_of_getElem? hi
theorem nmX9 : ∀ a, a < 10 → ∀ b, b < 10 → a ≠ b → (TX9 a).2.1 ≠ (TX9 b).2.1 := by decide +kernel
theorem inX10 : ∀ w ∈ u_ws RX10 TX10 10, w ∈ lw_tbl := fun w h => by
  have e : u_ws RX10 TX10 10 = [432, 434, 436, 438, 440, 442, 444, 446, 448, 450].filterMap (fun i => lw_tbl[i]?) := by decide +kernel
  rw [e] at h; obtain ⟨i, -, hi⟩ := List.mem_filterMap.mp h; exact List.mem_of_getElem? hi
theorem nmX10 : ∀ a, a < 10 → ∀ b, b < 10 → a ≠ b → (TX10 a).2.1 ≠ (TX10 b).2.1 := by decide +kernel
theorem inX11 : ∀ w ∈ u_ws RX11 TX11 9, w ∈ lw_tbl := fun w h => by
  have e : u_ws RX11 TX11 9 = [555, 557, 559, 561, 563, 565, 567, 569, 571].filterMap (fun i => lw_tbl[i]?) := by decide +kernel
  rw [e] at h; obtain ⟨i, -, hi⟩ := List.mem_filterMap.mp h; exact List.mem_of_getElem? hi
theorem nmX11 : ∀ a, a < 9 → ∀ b, b < 9 → a ≠ b → (TX11 a).2.1 ≠ (TX11 b).2.1 := by decide +kernel
theorem inX12 : ∀ w ∈ u_ws RX12 TX12 80, w ∈ lw_tbl := fun w h => by
  have e : u_ws RX12 TX12 80 = [1358, 1360, 1362, 1364, 1366, 1368, 1370, 1372, 1374, 1376, 1378, 1380, 1382, 1384, 1386, 1388, 1390, 1392, 1394, 1396, 1398, 1400, 1402, 1404, 1406, 1408, 1410, 1412, 1414, 1416, 1418, 1420, 1422, 1424, 1426, 1428, 1430, 1432, 1434, 1436, 1438, 1440, 1442, 1444, 1446, 1448, 1450, 1452, 1454, 1456, 1458, 1460, 1462, 1464, 1466, 1468, 1470, 1472, 1474, 1476, 1478, 1480, 1482, 1484, 1486, 1488, 1490, 1492, 1494, 1496, 1498, 1500, 1502, 1504, 1506, 1508, 1510, 1512, 1514, 1516].filterMap (fun i => lw_tbl[i]?) := by decide +kernel
  rw [e] at h; obtain ⟨i, -, hi⟩ := List.mem_filterMap.mp h; exact List.mem_of_getElem? hi
theorem nmX12 : ∀ a, a < 80 → ∀ b, b < 80 → a ≠ b → (TX12 a).2.1 ≠ (TX12 b).2.1 := by decide +kernel
