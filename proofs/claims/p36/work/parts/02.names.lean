/-! the classes: names, fields, types (out of the printed names) -/
/-- the words that a method may lean on -/
def usable : Cond → Bool
  | .castable .. => true
  | .methodLinkNest .. => true
  | .arrayOver _ => true
  | w => goodWord w
def lw_use : List Cond := lw_tbl.filter usable
theorem in_by {ws : List Cond} (ps : List Nat) (h : ws = ps.filterMap wAt) (h2 : ws.all usable = true) : ∀ w ∈ ws, w ∈ lw_use := by
  intro w hw
  have h3 := List.all_eq_true.mp h2 w hw
  rw [h] at hw
  obtain ⟨i, -, hi⟩ := List.mem_filterMap.mp hw
  exact List.mem_filter.mpr ⟨wAt_mem hi, h3⟩
def RJx4a65c : String := "java/util/ArrayList"
def TJx4a65c : u_T := fun k => match k with
  | 0 => ("java/util/AbstractList", "modCount", "I", false)
  | 1 => ("java/util/ArrayList", "elementData", "[Ljava/lang/Object;", false)
  | _ => ("java/util/ArrayList", "size", "I", false)
def tyJx4a65c : Nat → FieldType := fun k => match k with
  | 0 => .int
  | 1 => .array (.object "java/lang/Object")
  | _ => .int
set_option maxRecDepth 100000 in
theorem nmJx4a65c : ∀ a, a < 3 → ∀ b, b < 3 → a ≠ b → (TJx4a65c a).2.1 ≠ (TJx4a65c b).2.1 := by decide +kernel
set_option maxRecDepth 100000 in
theorem tyJx4a65c_ok : ∀ k, k < 3 → parseFieldDescriptor (TJx4a65c k).2.2.1 = some (tyJx4a65c k) := by decide +kernel
set_option maxRecDepth 100000 in
theorem inJx4a65c : ∀ w ∈ u_ws RJx4a65c TJx4a65c 3, w ∈ lw_use := in_by [159, 155, 157] (by decide +kernel) (by decide +kernel)
def RX0 : String := "WheelLand$Cloth"
def TX0 : u_T := fun k => match k with
  | 0 => ("WheelLand$Cloth", "yarn", "LWheelLand$Lot;", true)
  | 1 => ("WheelLand$Cloth", "weaver", "LWheelLand$House;", true)
  | 2 => ("WheelLand$Cloth", "week", "I", true)
  | 3 => ("WheelLand$Cloth", "yards", "I", true)
  | 4 => ("WheelLand$Cloth", "stamped", "Z", true)
  | _ => ("WheelLand$Cloth", "store", "I", false)
def tyX0 : Nat → FieldType := fun k => match k with
  | 0 => .object "WheelLand$Lot"
  | 1 => .object "WheelLand$House"
  | 2 => .int
  | 3 => .int
  | 4 => .boolean
  | _ => .int
set_option maxRecDepth 100000 in
theorem nmX0 : ∀ a, a < 6 → ∀ b, b < 6 → a ≠ b → (TX0 a).2.1 ≠ (TX0 b).2.1 := by decide +kernel
set_option maxRecDepth 100000 in
theorem tyX0_ok : ∀ k, k < 6 → parseFieldDescriptor (TX0 k).2.2.1 = some (tyX0 k) := by decide +kernel
set_option maxRecDepth 100000 in
theorem inX0 : ∀ w ∈ u_ws RX0 TX0 6, w ∈ lw_use := in_by [1207, 1209, 1211, 1213, 1215, 1217] (by decide +kernel) (by decide +kernel)
def RX1 : String := "WheelLand$Gifts"
def TX1 : u_T := fun k => match k with
  | 0 => ("WheelLand$Gifts", "told", "I", false)
  | 1 => ("WheelLand$Gifts", "heap", "I", false)
  | 2 => ("WheelLand$Gifts", "hanks", "I", false)
  | 3 => ("WheelLand$Gifts", "cost", "I", false)
  | 4 => ("WheelLand$Gifts", "prices", "[I", true)
  | 5 => ("WheelLand$Gifts", "receivers", "[I", true)
  | 6 => ("WheelLand$Gifts", "kinds", "[I", true)
  | 7 => ("WheelLand$Gifts", "wheels", "[I", true)
  | 8 => ("WheelLand$Gifts", "skills", "[I", true)
  | _ => ("WheelLand$Gifts", "cottons", "[I", true)
def tyX1 : Nat → FieldType := fun k => match k with
  | 0 => .int
  | 1 => .int
  | 2 => .int
  | 3 => .int
  | 4 => .array .int
  | 5 => .array .int
  | 6 => .array .int
  | 7 => .array .int
  | 8 => .array .int
  | _ => .array .int
set_option maxRecDepth 100000 in
theorem nmX1 : ∀ a, a < 10 → ∀ b, b < 10 → a ≠ b → (TX1 a).2.1 ≠ (TX1 b).2.1 := by decide +kernel
set_option maxRecDepth 100000 in
theorem tyX1_ok : ∀ k, k < 10 → parseFieldDescriptor (TX1 k).2.2.1 = some (tyX1 k) := by decide +kernel
set_option maxRecDepth 100000 in
theorem inX1 : ∀ w ∈ u_ws RX1 TX1 10, w ∈ lw_use := in_by [313, 315, 317, 319, 321, 323, 325, 327, 329, 331] (by decide +kernel) (by decide +kernel)
def RX2 : String := "WheelLand$Handwork"
def TX2 : u_T := fun k => match k with
  | 0 => ("WheelLand$Handwork", "lots", "Ljava/util/ArrayList;", true)
  | 1 => ("WheelLand$Handwork", "looms", "Ljava/util/ArrayList;", true)
  | 2 => ("WheelLand$Handwork", "hanks", "I", false)
  | 3 => ("WheelLand$Handwork", "days", "I", false)
  | 4 => ("WheelLand$Handwork", "weeks", "I", false)
  | 5 => ("WheelLand$Handwork", "needs", "[I", true)
  | 6 => ("WheelLand$Handwork", "choices", "[I", true)
  | 7 => ("WheelLand$Handwork", "got", "[I", true)
  | 8 => ("WheelLand$Handwork", "picks", "[I", true)
  | _ => ("WheelLand$Handwork", "firstPicks", "[I", true)
def tyX2 : Nat → FieldType := fun k => match k with
  | 0 => .object "java/util/ArrayList"
  | 1 => .object "java/util/ArrayList"
  | 2 => .int
  | 3 => .int
  | 4 => .int
  | 5 => .array .int
  | 6 => .array .int
  | 7 => .array .int
  | 8 => .array .int
  | _ => .array .int
set_option maxRecDepth 100000 in
theorem nmX2 : ∀ a, a < 10 → ∀ b, b < 10 → a ≠ b → (TX2 a).2.1 ≠ (TX2 b).2.1 := by decide +kernel
set_option maxRecDepth 100000 in
theorem tyX2_ok : ∀ k, k < 10 → parseFieldDescriptor (TX2 k).2.2.1 = some (tyX2 k) := by decide +kernel
set_option maxRecDepth 100000 in
theorem inX2 : ∀ w ∈ u_ws RX2 TX2 10, w ∈ lw_use := in_by [272, 274, 276, 278, 280, 282, 284, 286, 288, 290] (by decide +kernel) (by decide +kernel)
def RX3 : String := "WheelLand$House"
def TX3 : u_T := fun k => match k with
  | 0 => ("WheelLand$House", "number", "I", true)
  | 1 => ("WheelLand$House", "home", "LWheelLand$Village;", true)
  | 2 => ("WheelLand$House", "wheels", "I", true)
  | 3 => ("WheelLand$House", "skill", "I", true)
  | 4 => ("WheelLand$House", "caste", "I", true)
  | 5 => ("WheelLand$House", "heads", "I", true)
  | 6 => ("WheelLand$House", "purse", "I", false)
  | 7 => ("WheelLand$House", "aim", "I", false)
  | 8 => ("WheelLand$House", "bare", "I", false)
  | 9 => ("WheelLand$House", "handYards", "I", false)
  | 10 => ("WheelLand$House", "millYards", "I", false)
  | 11 => ("WheelLand$House", "loomFrom", "I", false)
  | 12 => ("WheelLand$House", "loomTo", "I", false)
  | 13 => ("WheelLand$House", "loomHanks", "I", false)
  | 14 => ("WheelLand$House", "woven", "I", false)
  | 15 => ("WheelLand$House", "owed", "I", false)
  | 16 => ("WheelLand$House", "paid", "I", false)
  | 17 => ("WheelLand$House", "paidOfOthers", "I", false)
  | _ => ("WheelLand$House", "can", "I", false)
def tyX3 : Nat → FieldType := fun k => match k with
  | 0 => .int
  | 1 => .object "WheelLand$Village"
  | 2 => .int
  | 3 => .int
  | 4 => .int
  | 5 => .int
  | 6 => .int
  | 7 => .int
  | 8 => .int
  | 9 => .int
  | 10 => .int
  | 11 => .int
  | 12 => .int
  | 13 => .int
  | 14 => .int
  | 15 => .int
  | 16 => .int
  | 17 => .int
  | _ => .int
set_option maxRecDepth 100000 in
theorem nmX3 : ∀ a, a < 19 → ∀ b, b < 19 → a ≠ b → (TX3 a).2.1 ≠ (TX3 b).2.1 := by decide +kernel
set_option maxRecDepth 100000 in
theorem tyX3_ok : ∀ k, k < 19 → parseFieldDescriptor (TX3 k).2.2.1 = some (tyX3 k) := by decide +kernel
set_option maxRecDepth 100000 in
theorem inX3 : ∀ w ∈ u_ws RX3 TX3 19, w ∈ lw_use := in_by [641, 643, 645, 647, 649, 651, 653, 655, 657, 659, 661, 663, 665, 667, 669, 671, 673, 675, 677] (by decide +kernel) (by decide +kernel)
def RX4 : String := "WheelLand$Ledger"
def TX4 : u_T := fun k => match k with
  | 0 => ("WheelLand$Ledger", "paid", "I", false)
  | 1 => ("WheelLand$Ledger", "woven", "I", false)
  | 2 => ("WheelLand$Ledger", "spun", "I", false)
  | _ => ("WheelLand$Ledger", "rows", "[I", true)
def tyX4 : Nat → FieldType := fun k => match k with
  | 0 => .int
  | 1 => .int
  | 2 => .int
  | _ => .array .int
set_option maxRecDepth 100000 in
theorem nmX4 : ∀ a, a < 4 → ∀ b, b < 4 → a ≠ b → (TX4 a).2.1 ≠ (TX4 b).2.1 := by decide +kernel
set_option maxRecDepth 100000 in
theorem tyX4_ok : ∀ k, k < 4 → parseFieldDescriptor (TX4 k).2.2.1 = some (tyX4 k) := by decide +kernel
set_option maxRecDepth 100000 in
theorem inX4 : ∀ w ∈ u_ws RX4 TX4 4, w ∈ lw_use := in_by [346, 348, 350, 352] (by decide +kernel) (by decide +kernel)
def RX5 : String := "WheelLand$Lot"
def TX5 : u_T := fun k => match k with
  | 0 => ("WheelLand$Lot", "number", "I", true)
  | 1 => ("WheelLand$Lot", "spinner", "LWheelLand$House;", true)
  | 2 => ("WheelLand$Lot", "week", "I", true)
  | 3 => ("WheelLand$Lot", "count", "I", true)
  | 4 => ("WheelLand$Lot", "strength", "I", true)
  | 5 => ("WheelLand$Lot", "hanks", "I", true)
  | _ => ("WheelLand$Lot", "left", "I", false)
def tyX5 : Nat → FieldType := fun k => match k with
  | 0 => .int
  | 1 => .object "WheelLand$House"
  | 2 => .int
  | 3 => .int
  | 4 => .int
  | 5 => .int
  | _ => .int
set_option maxRecDepth 100000 in
theorem nmX5 : ∀ a, a < 7 → ∀ b, b < 7 → a ≠ b → (TX5 a).2.1 ≠ (TX5 b).2.1 := by decide +kernel
set_option maxRecDepth 100000 in
theorem tyX5_ok : ∀ k, k < 7 → parseFieldDescriptor (TX5 k).2.2.1 = some (tyX5 k) := by decide +kernel
set_option maxRecDepth 100000 in
theorem inX5 : ∀ w ∈ u_ws RX5 TX5 7, w ∈ lw_use := in_by [768, 770, 772, 774, 776, 778, 780] (by decide +kernel) (by decide +kernel)
def RX6 : String := "WheelLand$Reader"
def TX6 : u_T := fun k => match k with
  | 0 => ("WheelLand$Reader", "size", "I", false)
  | 1 => ("WheelLand$Reader", "bytes", "[I", true)
  | 2 => ("WheelLand$Reader", "next", "I", false)
  | 3 => ("WheelLand$Reader", "place", "I", false)
  | 4 => ("WheelLand$Reader", "kind", "I", false)
  | 5 => ("WheelLand$Reader", "value", "I", false)
  | 6 => ("WheelLand$Reader", "written", "I", false)
  | 7 => ("WheelLand$Reader", "code", "[I", true)
  | _ => ("WheelLand$Reader", "begins", "[I", true)
def tyX6 : Nat → FieldType := fun k => match k with
  | 0 => .int
  | 1 => .array .int
  | 2 => .int
  | 3 => .int
  | 4 => .int
  | 5 => .int
  | 6 => .int
  | 7 => .array .int
  | _ => .array .int
set_option maxRecDepth 100000 in
theorem nmX6 : ∀ a, a < 9 → ∀ b, b < 9 → a ≠ b → (TX6 a).2.1 ≠ (TX6 b).2.1 := by decide +kernel
set_option maxRecDepth 100000 in
theorem tyX6_ok : ∀ k, k < 9 → parseFieldDescriptor (TX6 k).2.2.1 = some (tyX6 k) := by decide +kernel
set_option maxRecDepth 100000 in
theorem inX6 : ∀ w ∈ u_ws RX6 TX6 9, w ∈ lw_use := in_by [199, 201, 203, 205, 207, 209, 211, 213, 215] (by decide +kernel) (by decide +kernel)
def RX7 : String := "WheelLand$Roads"
def TX7 : u_T := fun k => match k with
  | 0 => ("WheelLand$Roads", "laid", "[I", true)
  | _ => ("WheelLand$Roads", "least", "[I", true)
def tyX7 : Nat → FieldType := fun k => match k with
  | 0 => .array .int
  | _ => .array .int
set_option maxRecDepth 100000 in
theorem nmX7 : ∀ a, a < 2 → ∀ b, b < 2 → a ≠ b → (TX7 a).2.1 ≠ (TX7 b).2.1 := by decide +kernel
set_option maxRecDepth 100000 in
theorem tyX7_ok : ∀ k, k < 2 → parseFieldDescriptor (TX7 k).2.2.1 = some (tyX7 k) := by decide +kernel
set_option maxRecDepth 100000 in
theorem inX7 : ∀ w ∈ u_ws RX7 TX7 2, w ∈ lw_use := in_by [177, 179] (by decide +kernel) (by decide +kernel)
def RX8 : String := "WheelLand$Rules"
def TX8 : u_T := fun k => match k with
  | 0 => ("WheelLand$Rules", "sheets", "Ljava/util/ArrayList;", true)
  | 1 => ("WheelLand$Rules", "forces", "I", false)
  | 2 => ("WheelLand$Rules", "forced", "[LWheelLand$Sheet;", true)
  | 3 => ("WheelLand$Rules", "since", "[I", true)
  | 4 => ("WheelLand$Rules", "names", "[I", true)
  | _ => ("WheelLand$Rules", "stack", "[I", true)
def tyX8 : Nat → FieldType := fun k => match k with
  | 0 => .object "java/util/ArrayList"
  | 1 => .int
  | 2 => .array (.object "WheelLand$Sheet")
  | 3 => .array .int
  | 4 => .array .int
  | _ => .array .int
set_option maxRecDepth 100000 in
theorem nmX8 : ∀ a, a < 6 → ∀ b, b < 6 → a ≠ b → (TX8 a).2.1 ≠ (TX8 b).2.1 := by decide +kernel
set_option maxRecDepth 100000 in
theorem tyX8_ok : ∀ k, k < 6 → parseFieldDescriptor (TX8 k).2.2.1 = some (tyX8 k) := by decide +kernel
set_option maxRecDepth 100000 in
theorem inX8 : ∀ w ∈ u_ws RX8 TX8 6, w ∈ lw_use := in_by [236, 238, 240, 242, 244, 246] (by decide +kernel) (by decide +kernel)
def RX9 : String := "WheelLand$Sheet"
def TX9 : u_T := fun k => match k with
  | 0 => ("WheelLand$Sheet", "number", "I", true)
  | 1 => ("WheelLand$Sheet", "code", "[I", true)
  | _ => ("WheelLand$Sheet", "begins", "[I", true)
def tyX9 : Nat → FieldType := fun k => match k with
  | 0 => .int
  | 1 => .array .int
  | _ => .array .int
set_option maxRecDepth 100000 in
theorem nmX9 : ∀ a, a < 3 → ∀ b, b < 3 → a ≠ b → (TX9 a).2.1 ≠ (TX9 b).2.1 := by decide +kernel
set_option maxRecDepth 100000 in
theorem tyX9_ok : ∀ k, k < 3 → parseFieldDescriptor (TX9 k).2.2.1 = some (tyX9 k) := by decide +kernel
set_option maxRecDepth 100000 in
theorem inX9 : ∀ w ∈ u_ws RX9 TX9 3, w ∈ lw_use := in_by [1129, 1131, 1133] (by decide +kernel) (by decide +kernel)
def RX10 : String := "WheelLand$Village"
def TX10 : u_T := fun k => match k with
  | 0 => ("WheelLand$Village", "number", "I", true)
  | 1 => ("WheelLand$Village", "idle", "I", true)
  | 2 => ("WheelLand$Village", "staple", "I", true)
  | 3 => ("WheelLand$Village", "cotton", "I", false)
  | 4 => ("WheelLand$Village", "word", "I", false)
  | 5 => ("WheelLand$Village", "stamped", "I", false)
  | 6 => ("WheelLand$Village", "plain", "I", false)
  | 7 => ("WheelLand$Village", "mill", "I", false)
  | 8 => ("WheelLand$Village", "handPrice", "I", false)
  | 9 => ("WheelLand$Village", "millPrice", "I", false)
  | 10 => ("WheelLand$Village", "takings", "I", false)
  | 11 => ("WheelLand$Village", "sold", "I", false)
  | 12 => ("WheelLand$Village", "stampedBrought", "I", false)
  | 13 => ("WheelLand$Village", "stampedSold", "I", false)
  | 14 => ("WheelLand$Village", "millSold", "I", false)
  | 15 => ("WheelLand$Village", "millSoldAhead", "I", false)
  | _ => ("WheelLand$Village", "millPrices", "[I", true)
def tyX10 : Nat → FieldType := fun k => match k with
  | 0 => .int
  | 1 => .int
  | 2 => .int
  | 3 => .int
  | 4 => .int
  | 5 => .int
  | 6 => .int
  | 7 => .int
  | 8 => .int
  | 9 => .int
  | 10 => .int
  | 11 => .int
  | 12 => .int
  | 13 => .int
  | 14 => .int
  | 15 => .int
  | _ => .array .int
set_option maxRecDepth 100000 in
theorem nmX10 : ∀ a, a < 17 → ∀ b, b < 17 → a ≠ b → (TX10 a).2.1 ≠ (TX10 b).2.1 := by decide +kernel
set_option maxRecDepth 100000 in
theorem tyX10_ok : ∀ k, k < 17 → parseFieldDescriptor (TX10 k).2.2.1 = some (tyX10 k) := by decide +kernel
set_option maxRecDepth 100000 in
theorem inX10 : ∀ w ∈ u_ws RX10 TX10 17, w ∈ lw_use := in_by [449, 451, 453, 455, 457, 459, 461, 463, 465, 467, 469, 471, 473, 475, 477, 479, 481] (by decide +kernel) (by decide +kernel)
def RX11 : String := "WheelLand"
def TX11 : u_T := fun k => match k with
  | 0 => ("WheelLand", "now", "I", false)
  | 1 => ("WheelLand", "crown", "I", false)
  | 2 => ("WheelLand", "villages", "Ljava/util/ArrayList;", true)
  | 3 => ("WheelLand", "houses", "Ljava/util/ArrayList;", true)
  | 4 => ("WheelLand", "lots", "Ljava/util/ArrayList;", true)
  | 5 => ("WheelLand", "cloths", "Ljava/util/ArrayList;", true)
  | 6 => ("WheelLand", "roads", "LWheelLand$Roads;", true)
  | 7 => ("WheelLand", "reader", "LWheelLand$Reader;", true)
  | 8 => ("WheelLand", "rules", "LWheelLand$Rules;", true)
  | 9 => ("WheelLand", "handwork", "LWheelLand$Handwork;", true)
  | 10 => ("WheelLand", "gifts", "LWheelLand$Gifts;", true)
  | 11 => ("WheelLand", "ledger", "LWheelLand$Ledger;", true)
  | _ => ("WheelLand", "wordsBefore", "[I", true)
def tyX11 : Nat → FieldType := fun k => match k with
  | 0 => .int
  | 1 => .int
  | 2 => .object "java/util/ArrayList"
  | 3 => .object "java/util/ArrayList"
  | 4 => .object "java/util/ArrayList"
  | 5 => .object "java/util/ArrayList"
  | 6 => .object "WheelLand$Roads"
  | 7 => .object "WheelLand$Reader"
  | 8 => .object "WheelLand$Rules"
  | 9 => .object "WheelLand$Handwork"
  | 10 => .object "WheelLand$Gifts"
  | 11 => .object "WheelLand$Ledger"
  | _ => .array .int
set_option maxRecDepth 100000 in
theorem nmX11 : ∀ a, a < 13 → ∀ b, b < 13 → a ≠ b → (TX11 a).2.1 ≠ (TX11 b).2.1 := by decide +kernel
set_option maxRecDepth 100000 in
theorem tyX11_ok : ∀ k, k < 13 → parseFieldDescriptor (TX11 k).2.2.1 = some (tyX11 k) := by decide +kernel
set_option maxRecDepth 100000 in
theorem inX11 : ∀ w ∈ u_ws RX11 TX11 13, w ∈ lw_use := in_by [368, 370, 372, 374, 376, 378, 380, 382, 384, 386, 388, 390, 392] (by decide +kernel) (by decide +kernel)
def RX12 : String := "WheelLandModel"
def TX12 : u_T := fun k => match k with
  | 0 => ("WheelLandModel", "now", "I", false)
  | 1 => ("WheelLandModel", "villages", "I", false)
  | 2 => ("WheelLandModel", "houses", "I", false)
  | 3 => ("WheelLandModel", "idle", "[[I", true)
  | 4 => ("WheelLandModel", "days", "[[I", true)
  | 5 => ("WheelLandModel", "millAt", "[[I", true)
  | 6 => ("WheelLandModel", "staple", "[I", true)
  | 7 => ("WheelLandModel", "cotton", "[I", true)
  | 8 => ("WheelLandModel", "stamped", "[I", true)
  | 9 => ("WheelLandModel", "plain", "[I", true)
  | 10 => ("WheelLandModel", "milled", "[I", true)
  | 11 => ("WheelLandModel", "handPrice", "[I", true)
  | 12 => ("WheelLandModel", "millPrice", "[I", true)
  | 13 => ("WheelLandModel", "word", "[I", true)
  | 14 => ("WheelLandModel", "takings", "[I", true)
  | 15 => ("WheelLandModel", "said", "[I", true)
  | 16 => ("WheelLandModel", "everStamped", "[I", true)
  | 17 => ("WheelLandModel", "soldStamped", "[I", true)
  | 18 => ("WheelLandModel", "soldMill", "[I", true)
  | 19 => ("WheelLandModel", "soldAhead", "[I", true)
  | 20 => ("WheelLandModel", "villageOf", "[I", true)
  | 21 => ("WheelLandModel", "wheels", "[I", true)
  | 22 => ("WheelLandModel", "skill", "[I", true)
  | 23 => ("WheelLandModel", "caste", "[I", true)
  | 24 => ("WheelLandModel", "heads", "[I", true)
  | 25 => ("WheelLandModel", "purse", "[I", true)
  | 26 => ("WheelLandModel", "aim", "[I", true)
  | 27 => ("WheelLandModel", "bare", "[I", true)
  | 28 => ("WheelLandModel", "boughtHand", "[I", true)
  | 29 => ("WheelLandModel", "boughtMill", "[I", true)
  | 30 => ("WheelLandModel", "loomFrom", "[I", true)
  | 31 => ("WheelLandModel", "loomTo", "[I", true)
  | 32 => ("WheelLandModel", "loomCan", "[I", true)
  | 33 => ("WheelLandModel", "loomUsed", "[I", true)
  | 34 => ("WheelLandModel", "owes", "[J", true)
  | 35 => ("WheelLandModel", "paid", "[I", true)
  | 36 => ("WheelLandModel", "can", "[I", true)
  | 37 => ("WheelLandModel", "maybe", "[I", true)
  | 38 => ("WheelLandModel", "crown", "I", false)
  | 39 => ("WheelLandModel", "way", "[I", true)
  | 40 => ("WheelLandModel", "text", "[B", true)
  | 41 => ("WheelLandModel", "textMany", "I", false)
  | 42 => ("WheelLandModel", "at", "I", false)
  | 43 => ("WheelLandModel", "end0", "I", false)
  | 44 => ("WheelLandModel", "faultAt", "I", false)
  | 45 => ("WheelLandModel", "codeMany", "I", false)
  | 46 => ("WheelLandModel", "value0", "I", false)
  | 47 => ("WheelLandModel", "clause", "I", false)
  | 48 => ("WheelLandModel", "codes", "[[[I", true)
  | 49 => ("WheelLandModel", "codeLong", "[[I", true)
  | 50 => ("WheelLandModel", "forceSheet", "[I", true)
  | 51 => ("WheelLandModel", "forceFrom", "[I", true)
  | 52 => ("WheelLandModel", "sheets", "I", false)
  | 53 => ("WheelLandModel", "forces", "I", false)
  | 54 => ("WheelLandModel", "clauseWords", "[Ljava/lang/String;", true)
  | 55 => ("WheelLandModel", "nameWords", "[Ljava/lang/String;", true)
  | 56 => ("WheelLandModel", "names", "[I", true)
  | 57 => ("WheelLandModel", "stack", "[I", true)
  | 58 => ("WheelLandModel", "lotHouse", "[I", true)
  | 59 => ("WheelLandModel", "lotWeek", "[I", true)
  | 60 => ("WheelLandModel", "lotCount", "[I", true)
  | 61 => ("WheelLandModel", "lotStrength", "[I", true)
  | 62 => ("WheelLandModel", "lotHanks", "[I", true)
  | 63 => ("WheelLandModel", "lotLeft", "[I", true)
  | 64 => ("WheelLandModel", "lots", "I", false)
  | 65 => ("WheelLandModel", "spun", "[I", true)
  | 66 => ("WheelLandModel", "cottonLeft", "[I", true)
  | 67 => ("WheelLandModel", "wheelsNow", "[I", true)
  | 68 => ("WheelLandModel", "skillNow", "[I", true)
  | 69 => ("WheelLandModel", "paidAll", "I", false)
  | 70 => ("WheelLandModel", "wovenAll", "I", false)
  | 71 => ("WheelLandModel", "spunAll", "I", false)
  | 72 => ("WheelLandModel", "clothLot", "[I", true)
  | 73 => ("WheelLandModel", "clothBy", "[I", true)
  | 74 => ("WheelLandModel", "clothWeek", "[I", true)
  | 75 => ("WheelLandModel", "clothYards", "[I", true)
  | 76 => ("WheelLandModel", "clothTo", "[I", true)
  | 77 => ("WheelLandModel", "isStamped", "[Z", true)
  | 78 => ("WheelLandModel", "cloths", "I", false)
  | 79 => ("WheelLandModel", "asked", "[I", true)
  | 80 => ("WheelLandModel", "many", "[I", true)
  | 81 => ("WheelLandModel", "loomHouse", "[I", true)
  | 82 => ("WheelLandModel", "line", "[I", true)
  | 83 => ("WheelLandModel", "bestLine", "[I", true)
  | 84 => ("WheelLandModel", "may", "[[Z", true)
  | 85 => ("WheelLandModel", "far", "[[I", true)
  | 86 => ("WheelLandModel", "askedMany", "I", false)
  | 87 => ("WheelLandModel", "loomMany", "I", false)
  | 88 => ("WheelLandModel", "bestHanks", "I", false)
  | 89 => ("WheelLandModel", "bestDays", "I", false)
  | 90 => ("WheelLandModel", "bestWeeks", "I", false)
  | 91 => ("WheelLandModel", "numbers", "[[I", true)
  | 92 => ("WheelLandModel", "words", "[I", true)
  | 93 => ("WheelLandModel", "giftPrice", "[I", true)
  | 94 => ("WheelLandModel", "giftHouse", "[I", true)
  | 95 => ("WheelLandModel", "giftKind", "[I", true)
  | _ => ("WheelLandModel", "gifts", "I", false)
def tyX12 : Nat → FieldType := fun k => match k with
  | 0 => .int
  | 1 => .int
  | 2 => .int
  | 3 => .array (.array .int)
  | 4 => .array (.array .int)
  | 5 => .array (.array .int)
  | 6 => .array .int
  | 7 => .array .int
  | 8 => .array .int
  | 9 => .array .int
  | 10 => .array .int
  | 11 => .array .int
  | 12 => .array .int
  | 13 => .array .int
  | 14 => .array .int
  | 15 => .array .int
  | 16 => .array .int
  | 17 => .array .int
  | 18 => .array .int
  | 19 => .array .int
  | 20 => .array .int
  | 21 => .array .int
  | 22 => .array .int
  | 23 => .array .int
  | 24 => .array .int
  | 25 => .array .int
  | 26 => .array .int
  | 27 => .array .int
  | 28 => .array .int
  | 29 => .array .int
  | 30 => .array .int
  | 31 => .array .int
  | 32 => .array .int
  | 33 => .array .int
  | 34 => .array .long
  | 35 => .array .int
  | 36 => .array .int
  | 37 => .array .int
  | 38 => .int
  | 39 => .array .int
  | 40 => .array .byte
  | 41 => .int
  | 42 => .int
  | 43 => .int
  | 44 => .int
  | 45 => .int
  | 46 => .int
  | 47 => .int
  | 48 => .array (.array (.array .int))
  | 49 => .array (.array .int)
  | 50 => .array .int
  | 51 => .array .int
  | 52 => .int
  | 53 => .int
  | 54 => .array (.object "java/lang/String")
  | 55 => .array (.object "java/lang/String")
  | 56 => .array .int
  | 57 => .array .int
  | 58 => .array .int
  | 59 => .array .int
  | 60 => .array .int
  | 61 => .array .int
  | 62 => .array .int
  | 63 => .array .int
  | 64 => .int
  | 65 => .array .int
  | 66 => .array .int
  | 67 => .array .int
  | 68 => .array .int
  | 69 => .int
  | 70 => .int
  | 71 => .int
  | 72 => .array .int
  | 73 => .array .int
  | 74 => .array .int
  | 75 => .array .int
  | 76 => .array .int
  | 77 => .array .boolean
  | 78 => .int
  | 79 => .array .int
  | 80 => .array .int
  | 81 => .array .int
  | 82 => .array .int
  | 83 => .array .int
  | 84 => .array (.array .boolean)
  | 85 => .array (.array .int)
  | 86 => .int
  | 87 => .int
  | 88 => .int
  | 89 => .int
  | 90 => .int
  | 91 => .array (.array .int)
  | 92 => .array .int
  | 93 => .array .int
  | 94 => .array .int
  | 95 => .array .int
  | _ => .int
set_option maxRecDepth 100000 in
theorem nmX12 : ∀ a, a < 97 → ∀ b, b < 97 → a ≠ b → (TX12 a).2.1 ≠ (TX12 b).2.1 := by decide +kernel
set_option maxRecDepth 100000 in
theorem tyX12_ok : ∀ k, k < 97 → parseFieldDescriptor (TX12 k).2.2.1 = some (tyX12 k) := by decide +kernel
set_option maxRecDepth 100000 in
theorem inX12 : ∀ w ∈ u_ws RX12 TX12 97, w ∈ lw_use := in_by [1572, 1574, 1576, 1578, 1580, 1582, 1584, 1586, 1588, 1590, 1592, 1594, 1596, 1598, 1600, 1602, 1604, 1606, 1608, 1610, 1612, 1614, 1616, 1618, 1620, 1622, 1624, 1626, 1628, 1630, 1632, 1634, 1636, 1638, 1640, 1642, 1644, 1646, 1648, 1650, 1652, 1654, 1656, 1658, 1660, 1662, 1664, 1666, 1668, 1670, 1672, 1674, 1676, 1678, 1680, 1682, 1684, 1686, 1688, 1690, 1692, 1694, 1696, 1698, 1700, 1702, 1704, 1706, 1708, 1710, 1712, 1714, 1716, 1718, 1720, 1722, 1724, 1726, 1728, 1730, 1732, 1734, 1736, 1738, 1740, 1742, 1744, 1746, 1748, 1750, 1752, 1754, 1756, 1758, 1760, 1762, 1764] (by decide +kernel) (by decide +kernel)
abbrev vwCl : List vw_C := [(RJx4a65c, TJx4a65c, 3), (RX0, TX0, 6), (RX1, TX1, 10), (RX2, TX2, 10), (RX3, TX3, 19), (RX4, TX4, 4), (RX5, TX5, 7), (RX6, TX6, 9), (RX7, TX7, 2), (RX8, TX8, 6), (RX9, TX9, 3), (RX10, TX10, 17), (RX11, TX11, 13), (RX12, TX12, 97)]
