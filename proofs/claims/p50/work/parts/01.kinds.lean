theorem goodIn_r {big : List Cond} (ws : List Cond) (ps : List Nat) (hp : ws = ps.filterMap (fun i => big[i]?)) (h : ws.all goodWord = true) : GoodIn big ws := by
  intro w hw
  have h1 := List.all_eq_true.mp h w hw
  rw [hp] at hw
  obtain ⟨i, -, hi⟩ := List.mem_filterMap.mp hw
  have hm : w ∈ big := by first | exact List.mem_of_getElem? hi | exact List.getElem?_mem hi
  exact ⟨hm, good_of_word h1⟩
theorem goodIn_app {big a b : List Cond} (ha : GoodIn big a) (hb : GoodIn big b) : GoodIn big (a ++ b) := fun w h => (List.mem_append.mp h).elim (ha w) (hb w)
theorem goodIn_ca {big a b : List Cond} {c : Cond} (ha : GoodIn big (c :: a)) (hb : GoodIn big b) : GoodIn big (c :: (a ++ b)) := fun w h => (List.mem_cons.mp h).elim (fun e => ha w (List.mem_cons.mpr (Or.inl e))) (fun h => (List.mem_append.mp h).elim (fun h => ha w (List.mem_cons.mpr (Or.inr h))) (hb w))
theorem goodIn_sub {big ws : List Cond} (hm : ∀ w ∈ ws, w ∈ big) (h : ws.all goodWord = true) : GoodIn big ws := fun w hw => ⟨hm w hw, good_of_word (List.all_eq_true.mp h w hw)⟩
def RX0 : String := "PepperTables$Acts"
def TX0 : u_T := fun k => match k with
  | 0 => ("PepperTables$Acts", "undoable", "I", false)
  | 1 => ("PepperTables$Acts", "redoable", "I", false)
  | 2 => ("PepperTables$Acts", "row", "I", false)
  | _ => ("PepperTables$Acts", "rows", "[I", true)
def tyX0 : Nat → FieldType := fun k => match k with
  | 0 => .int
  | 1 => .int
  | 2 => .int
  | _ => .array .int
theorem nmX0 : ∀ a, a < 4 → ∀ b, b < 4 → a ≠ b → (TX0 a).2.1 ≠ (TX0 b).2.1 := by decide +kernel
theorem tyX0_ok : ∀ k, k < 4 → parseFieldDescriptor (TX0 k).2.2.1 = some (tyX0 k) := by decide +kernel
theorem ee_dcX0 : ∀ k, k < 4 → (TX0 k).1 = RX0 := by decide +kernel
def RX1 : String := "PepperTables$Boxes"
def TX1 : u_T := fun k => match k with
  | 0 => ("PepperTables$Boxes", "rows", "[I", true)
  | _ => ("PepperTables$Boxes", "filled", "[Z", true)
def tyX1 : Nat → FieldType := fun k => match k with
  | 0 => .array .int
  | _ => .array .boolean
theorem nmX1 : ∀ a, a < 2 → ∀ b, b < 2 → a ≠ b → (TX1 a).2.1 ≠ (TX1 b).2.1 := by decide +kernel
theorem tyX1_ok : ∀ k, k < 2 → parseFieldDescriptor (TX1 k).2.2.1 = some (tyX1 k) := by decide +kernel
theorem ee_dcX1 : ∀ k, k < 2 → (TX1 k).1 = RX1 := by decide +kernel
def RX2 : String := "PepperTables$Hearsay"
def TX2 : u_T := fun k => match k with
  | 0 => ("PepperTables$Hearsay", "count", "I", false)
  | 1 => ("PepperTables$Hearsay", "time", "I", false)
  | 2 => ("PepperTables$Hearsay", "isReckoned", "Z", false)
  | 3 => ("PepperTables$Hearsay", "rowCount", "I", false)
  | 4 => ("PepperTables$Hearsay", "sacks", "[I", true)
  | 5 => ("PepperTables$Hearsay", "many", "[I", true)
  | 6 => ("PepperTables$Hearsay", "is", "[Z", true)
  | 7 => ("PepperTables$Hearsay", "toldAt", "[I", true)
  | 8 => ("PepperTables$Hearsay", "untoldAt", "[I", true)
  | 9 => ("PepperTables$Hearsay", "outs", "[I", true)
  | 10 => ("PepperTables$Hearsay", "isLeft", "[Z", true)
  | 11 => ("PepperTables$Hearsay", "tally", "[I", true)
  | _ => ("PepperTables$Hearsay", "scene", "LPepperTables$State;", true)
def tyX2 : Nat → FieldType := fun k => match k with
  | 0 => .int
  | 1 => .int
  | 2 => .boolean
  | 3 => .int
  | 4 => .array .int
  | 5 => .array .int
  | 6 => .array .boolean
  | 7 => .array .int
  | 8 => .array .int
  | 9 => .array .int
  | 10 => .array .boolean
  | 11 => .array .int
  | _ => .object "PepperTables$State"
theorem nmX2 : ∀ a, a < 13 → ∀ b, b < 13 → a ≠ b → (TX2 a).2.1 ≠ (TX2 b).2.1 := by decide +kernel
theorem tyX2_ok : ∀ k, k < 13 → parseFieldDescriptor (TX2 k).2.2.1 = some (tyX2 k) := by decide +kernel
theorem ee_dcX2 : ∀ k, k < 13 → (TX2 k).1 = RX2 := by decide +kernel
def RX3 : String := "PepperTables$Lying"
def TX3 : u_T := fun k => match k with
  | 0 => ("PepperTables$Lying", "count", "I", false)
  | 1 => ("PepperTables$Lying", "numbers", "[I", true)
  | 2 => ("PepperTables$Lying", "path", "[I", true)
  | 3 => ("PepperTables$Lying", "listeners", "[I", true)
  | _ => ("PepperTables$Lying", "people", "I", false)
def tyX3 : Nat → FieldType := fun k => match k with
  | 0 => .int
  | 1 => .array .int
  | 2 => .array .int
  | 3 => .array .int
  | _ => .int
theorem nmX3 : ∀ a, a < 5 → ∀ b, b < 5 → a ≠ b → (TX3 a).2.1 ≠ (TX3 b).2.1 := by decide +kernel
theorem tyX3_ok : ∀ k, k < 5 → parseFieldDescriptor (TX3 k).2.2.1 = some (tyX3 k) := by decide +kernel
theorem ee_dcX3 : ∀ k, k < 5 → (TX3 k).1 = RX3 := by decide +kernel
def RX4 : String := "PepperTables$Mill"
def TX4 : u_T := fun k => match k with
  | 0 => ("PepperTables$Mill", "inputs", "[I", true)
  | 1 => ("PepperTables$Mill", "stack", "[I", true)
  | _ => ("PepperTables$Mill", "passingBySize", "[I", true)
def tyX4 : Nat → FieldType := fun k => match k with
  | 0 => .array .int
  | 1 => .array .int
  | _ => .array .int
theorem nmX4 : ∀ a, a < 3 → ∀ b, b < 3 → a ≠ b → (TX4 a).2.1 ≠ (TX4 b).2.1 := by decide +kernel
theorem tyX4_ok : ∀ k, k < 3 → parseFieldDescriptor (TX4 k).2.2.1 = some (tyX4 k) := by decide +kernel
theorem ee_dcX4 : ∀ k, k < 3 → (TX4 k).1 = RX4 := by decide +kernel
def RX5 : String := "PepperTables$Reader"
def TX5 : u_T := fun k => match k with
  | 0 => ("PepperTables$Reader", "length", "I", false)
  | 1 => ("PepperTables$Reader", "fault", "I", false)
  | 2 => ("PepperTables$Reader", "faultPlace", "I", false)
  | 3 => ("PepperTables$Reader", "target", "LPepperTables$Told;", false)
  | 4 => ("PepperTables$Reader", "text", "[I", true)
  | 5 => ("PepperTables$Reader", "words", "[J", true)
  | 6 => ("PepperTables$Reader", "at", "I", false)
  | 7 => ("PepperTables$Reader", "kind", "I", false)
  | 8 => ("PepperTables$Reader", "place", "I", false)
  | 9 => ("PepperTables$Reader", "number", "I", false)
  | _ => ("PepperTables$Reader", "name", "J", false)
def tyX5 : Nat → FieldType := fun k => match k with
  | 0 => .int
  | 1 => .int
  | 2 => .int
  | 3 => .object "PepperTables$Told"
  | 4 => .array .int
  | 5 => .array .long
  | 6 => .int
  | 7 => .int
  | 8 => .int
  | 9 => .int
  | _ => .long
theorem nmX5 : ∀ a, a < 11 → ∀ b, b < 11 → a ≠ b → (TX5 a).2.1 ≠ (TX5 b).2.1 := by decide +kernel
theorem tyX5_ok : ∀ k, k < 11 → parseFieldDescriptor (TX5 k).2.2.1 = some (tyX5 k) := by decide +kernel
theorem ee_dcX5 : ∀ k, k < 11 → (TX5 k).1 = RX5 := by decide +kernel
def RX6 : String := "PepperTables$State"
def TX6 : u_T := fun k => match k with
  | 0 => ("PepperTables$State", "sits", "I", false)
  | 1 => ("PepperTables$State", "said", "I", false)
  | 2 => ("PepperTables$State", "course", "I", false)
  | 3 => ("PepperTables$State", "seed", "I", false)
  | 4 => ("PepperTables$State", "where", "[I", true)
  | _ => ("PepperTables$State", "ground", "[I", true)
def tyX6 : Nat → FieldType := fun k => match k with
  | 0 => .int
  | 1 => .int
  | 2 => .int
  | 3 => .int
  | 4 => .array .int
  | _ => .array .int
theorem nmX6 : ∀ a, a < 6 → ∀ b, b < 6 → a ≠ b → (TX6 a).2.1 ≠ (TX6 b).2.1 := by decide +kernel
theorem tyX6_ok : ∀ k, k < 6 → parseFieldDescriptor (TX6 k).2.2.1 = some (tyX6 k) := by decide +kernel
theorem ee_dcX6 : ∀ k, k < 6 → (TX6 k).1 = RX6 := by decide +kernel
def RX7 : String := "PepperTables$Told"
def TX7 : u_T := fun k => match k with
  | 0 => ("PepperTables$Told", "people", "I", false)
  | 1 => ("PepperTables$Told", "sacks", "I", false)
  | 2 => ("PepperTables$Told", "things", "I", false)
  | 3 => ("PepperTables$Told", "units", "I", false)
  | 4 => ("PepperTables$Told", "sneeze", "I", false)
  | 5 => ("PepperTables$Told", "draw", "I", false)
  | 6 => ("PepperTables$Told", "codeLength", "I", false)
  | 7 => ("PepperTables$Told", "hasFormula", "Z", false)
  | 8 => ("PepperTables$Told", "hasSneeze", "Z", false)
  | 9 => ("PepperTables$Told", "hasDraw", "Z", false)
  | 10 => ("PepperTables$Told", "shy", "[I", true)
  | 11 => ("PepperTables$Told", "by", "[I", true)
  | 12 => ("PepperTables$Told", "to", "[I", true)
  | 13 => ("PepperTables$Told", "hot", "[I", true)
  | 14 => ("PepperTables$Told", "in", "[I", true)
  | 15 => ("PepperTables$Told", "code", "[I", true)
  | 16 => ("PepperTables$Told", "personNames", "[J", true)
  | 17 => ("PepperTables$Told", "sackNames", "[J", true)
  | _ => ("PepperTables$Told", "thingNames", "[J", true)
def tyX7 : Nat → FieldType := fun k => match k with
  | 0 => .int
  | 1 => .int
  | 2 => .int
  | 3 => .int
  | 4 => .int
  | 5 => .int
  | 6 => .int
  | 7 => .boolean
  | 8 => .boolean
  | 9 => .boolean
  | 10 => .array .int
  | 11 => .array .int
  | 12 => .array .int
  | 13 => .array .int
  | 14 => .array .int
  | 15 => .array .int
  | 16 => .array .long
  | 17 => .array .long
  | _ => .array .long
theorem nmX7 : ∀ a, a < 19 → ∀ b, b < 19 → a ≠ b → (TX7 a).2.1 ≠ (TX7 b).2.1 := by decide +kernel
theorem tyX7_ok : ∀ k, k < 19 → parseFieldDescriptor (TX7 k).2.2.1 = some (tyX7 k) := by decide +kernel
theorem ee_dcX7 : ∀ k, k < 19 → (TX7 k).1 = RX7 := by decide +kernel
def RX8 : String := "PepperTables"
def TX8 : u_T := fun k => match k with
  | 0 => ("PepperTables", "reader", "LPepperTables$Reader;", true)
  | 1 => ("PepperTables", "told", "LPepperTables$Told;", false)
  | 2 => ("PepperTables", "now", "LPepperTables$State;", true)
  | 3 => ("PepperTables", "trial", "LPepperTables$State;", true)
  | 4 => ("PepperTables", "mill", "LPepperTables$Mill;", true)
  | 5 => ("PepperTables", "acts", "LPepperTables$Acts;", true)
  | 6 => ("PepperTables", "boxes", "LPepperTables$Boxes;", true)
  | 7 => ("PepperTables", "lying", "LPepperTables$Lying;", true)
  | 8 => ("PepperTables", "hearsay", "LPepperTables$Hearsay;", true)
  | 9 => ("PepperTables", "scores", "[I", true)
  | 10 => ("PepperTables", "firstGains", "[I", true)
  | _ => ("PepperTables", "otherGains", "[I", true)
def tyX8 : Nat → FieldType := fun k => match k with
  | 0 => .object "PepperTables$Reader"
  | 1 => .object "PepperTables$Told"
  | 2 => .object "PepperTables$State"
  | 3 => .object "PepperTables$State"
  | 4 => .object "PepperTables$Mill"
  | 5 => .object "PepperTables$Acts"
  | 6 => .object "PepperTables$Boxes"
  | 7 => .object "PepperTables$Lying"
  | 8 => .object "PepperTables$Hearsay"
  | 9 => .array .int
  | 10 => .array .int
  | _ => .array .int
theorem nmX8 : ∀ a, a < 12 → ∀ b, b < 12 → a ≠ b → (TX8 a).2.1 ≠ (TX8 b).2.1 := by decide +kernel
theorem tyX8_ok : ∀ k, k < 12 → parseFieldDescriptor (TX8 k).2.2.1 = some (tyX8 k) := by decide +kernel
theorem ee_dcX8 : ∀ k, k < 12 → (TX8 k).1 = RX8 := by decide +kernel
def RX9 : String := "PepperTablesModel"
def TX9 : u_T := fun k => match k with
  | 0 => ("PepperTablesModel", "tape", "[B", true)
  | 1 => ("PepperTablesModel", "text", "[B", true)
  | 2 => ("PepperTablesModel", "taped", "I", false)
  | 3 => ("PepperTablesModel", "size", "I", false)
  | 4 => ("PepperTablesModel", "faultKind", "I", false)
  | 5 => ("PepperTablesModel", "faultPlace", "I", false)
  | 6 => ("PepperTablesModel", "at", "I", false)
  | 7 => ("PepperTablesModel", "end", "I", false)
  | 8 => ("PepperTablesModel", "token", "I", false)
  | 9 => ("PepperTablesModel", "number", "I", false)
  | 10 => ("PepperTablesModel", "name", "J", false)
  | 11 => ("PepperTablesModel", "people", "[I", true)
  | 12 => ("PepperTablesModel", "sacks", "[I", true)
  | 13 => ("PepperTablesModel", "things", "[I", true)
  | 14 => ("PepperTablesModel", "units", "[I", true)
  | 15 => ("PepperTablesModel", "sneeze", "[I", true)
  | 16 => ("PepperTablesModel", "draw", "[I", true)
  | 17 => ("PepperTablesModel", "told", "[I", true)
  | 18 => ("PepperTablesModel", "shy", "[I", true)
  | 19 => ("PepperTablesModel", "from", "[I", true)
  | 20 => ("PepperTablesModel", "whom", "[I", true)
  | 21 => ("PepperTablesModel", "hot", "[I", true)
  | 22 => ("PepperTablesModel", "inSack", "[I", true)
  | 23 => ("PepperTablesModel", "ruleFrom", "[I", true)
  | 24 => ("PepperTablesModel", "ruleTo", "[I", true)
  | 25 => ("PepperTablesModel", "pName", "[J", true)
  | 26 => ("PepperTablesModel", "sName", "[J", true)
  | 27 => ("PepperTablesModel", "tName", "[J", true)
  | 28 => ("PepperTablesModel", "code", "[I", true)
  | 29 => ("PepperTablesModel", "codeNumber", "[I", true)
  | 30 => ("PepperTablesModel", "eWhat", "[I", true)
  | 31 => ("PepperTablesModel", "eSign", "[I", true)
  | 32 => ("PepperTablesModel", "pile", "[I", true)
  | 33 => ("PepperTablesModel", "bank", "I", false)
  | 34 => ("PepperTablesModel", "rb", "I", false)
  | 35 => ("PepperTablesModel", "codes", "I", false)
  | 36 => ("PepperTablesModel", "within", "I", false)
  | 37 => ("PepperTablesModel", "piled", "I", false)
  | 38 => ("PepperTablesModel", "unitsInRule", "I", false)
  | 39 => ("PepperTablesModel", "askThing", "I", false)
  | 40 => ("PepperTablesModel", "askSack", "I", false)
  | 41 => ("PepperTablesModel", "askShy", "I", false)
  | 42 => ("PepperTablesModel", "all", "[I", true)
  | 43 => ("PepperTablesModel", "thoughtThing", "I", false)
  | 44 => ("PepperTablesModel", "thoughtShy", "I", false)
  | 45 => ("PepperTablesModel", "was", "[I", true)
  | 46 => ("PepperTablesModel", "acts", "I", false)
  | 47 => ("PepperTablesModel", "undone", "I", false)
  | 48 => ("PepperTablesModel", "kept", "[I", true)
  | 49 => ("PepperTablesModel", "laidRow", "[I", true)
  | 50 => ("PepperTablesModel", "laid", "I", false)
  | 51 => ("PepperTablesModel", "feasts", "[I", true)
  | 52 => ("PepperTablesModel", "manyBy", "[I", true)
  | 53 => ("PepperTablesModel", "sSack", "[I", true)
  | 54 => ("PepperTablesModel", "sMany", "[I", true)
  | 55 => ("PepperTablesModel", "sIs", "[I", true)
  | 56 => ("PepperTablesModel", "sTold", "[I", true)
  | 57 => ("PepperTablesModel", "sUntold", "[I", true)
  | 58 => ("PepperTablesModel", "parts", "[I", true)
  | 59 => ("PepperTablesModel", "byMany", "[I", true)
  | 60 => ("PepperTablesModel", "heards", "I", false)
  | 61 => ("PepperTablesModel", "time", "I", false)
  | 62 => ("PepperTablesModel", "fitting", "I", false)
  | 63 => ("PepperTablesModel", "boxAll", "[I", true)
  | _ => ("PepperTablesModel", "isBoxed", "[Z", true)
def tyX9 : Nat → FieldType := fun k => match k with
  | 0 => .array .byte
  | 1 => .array .byte
  | 2 => .int
  | 3 => .int
  | 4 => .int
  | 5 => .int
  | 6 => .int
  | 7 => .int
  | 8 => .int
  | 9 => .int
  | 10 => .long
  | 11 => .array .int
  | 12 => .array .int
  | 13 => .array .int
  | 14 => .array .int
  | 15 => .array .int
  | 16 => .array .int
  | 17 => .array .int
  | 18 => .array .int
  | 19 => .array .int
  | 20 => .array .int
  | 21 => .array .int
  | 22 => .array .int
  | 23 => .array .int
  | 24 => .array .int
  | 25 => .array .long
  | 26 => .array .long
  | 27 => .array .long
  | 28 => .array .int
  | 29 => .array .int
  | 30 => .array .int
  | 31 => .array .int
  | 32 => .array .int
  | 33 => .int
  | 34 => .int
  | 35 => .int
  | 36 => .int
  | 37 => .int
  | 38 => .int
  | 39 => .int
  | 40 => .int
  | 41 => .int
  | 42 => .array .int
  | 43 => .int
  | 44 => .int
  | 45 => .array .int
  | 46 => .int
  | 47 => .int
  | 48 => .array .int
  | 49 => .array .int
  | 50 => .int
  | 51 => .array .int
  | 52 => .array .int
  | 53 => .array .int
  | 54 => .array .int
  | 55 => .array .int
  | 56 => .array .int
  | 57 => .array .int
  | 58 => .array .int
  | 59 => .array .int
  | 60 => .int
  | 61 => .int
  | 62 => .int
  | 63 => .array .int
  | _ => .array .boolean
theorem nmX9 : ∀ a, a < 65 → ∀ b, b < 65 → a ≠ b → (TX9 a).2.1 ≠ (TX9 b).2.1 := by decide +kernel
theorem tyX9_ok : ∀ k, k < 65 → parseFieldDescriptor (TX9 k).2.2.1 = some (tyX9 k) := by decide +kernel
theorem ee_dcX9 : ∀ k, k < 65 → (TX9 k).1 = RX9 := by decide +kernel
abbrev vwCl : List vw_C := [(RX0, TX0, 4), (RX1, TX1, 2), (RX2, TX2, 13), (RX3, TX3, 5), (RX4, TX4, 3), (RX5, TX5, 11), (RX6, TX6, 6), (RX7, TX7, 19), (RX8, TX8, 12), (RX9, TX9, 65)]
/-- the words that a callee may keep -/
def ee_tbl : List Cond := lw_tbl.filter goodWord
def ee_own : List String := [RX0, RX1, RX2, RX3, RX4, RX5, RX6, RX7, RX8, RX9, "PepperTablesLaw", "java/lang/Character", "java/lang/Integer", "java/lang/Math", "java/lang/String", "java/lang/StringLatin1", "jdk/internal/util/Preconditions"]
def ee_at (i : Nat) (w : Cond) : Bool := decide (lw_tbl[i]? = some w) && goodWord w
theorem ee_at.mem {i : Nat} {w : Cond} (h : ee_at i w = true) : w ∈ ee_tbl := by
  have h := Bool.and_eq_true_iff.mp h
  exact List.mem_filter.mpr ⟨List.mem_of_getElem? (of_decide_eq_true h.1), h.2⟩
def ee_atL (i : Nat) (w : Cond) : Bool := decide (lw_tbl[i]? = some w)
theorem ee_atL.mem {i : Nat} {w : Cond} (h : ee_atL i w = true) : w ∈ lw_tbl := List.mem_of_getElem? (of_decide_eq_true h)
theorem ee_tbl_good : ∀ w ∈ ee_tbl, goodWord w = true := fun w h => (List.mem_filter.mp h).2
theorem ee_tbl_lw : ∀ w ∈ ee_tbl, w ∈ lw_tbl := fun w h => (List.mem_filter.mp h).1
theorem ee_wsX0 : u_ws RX0 TX0 4 = [416, 418, 420, 422].filterMap (fun i => lw_tbl[i]?) ∧ (u_ws RX0 TX0 4).all goodWord = true := by decide +kernel
theorem ee_wsX1 : u_ws RX1 TX1 2 = [433, 435].filterMap (fun i => lw_tbl[i]?) ∧ (u_ws RX1 TX1 2).all goodWord = true := by decide +kernel
theorem ee_wsX2 : u_ws RX2 TX2 13 = [485, 487, 489, 491, 493, 495, 497, 499, 501, 503, 505, 507, 509].filterMap (fun i => lw_tbl[i]?) ∧ (u_ws RX2 TX2 13).all goodWord = true := by decide +kernel
theorem ee_wsX3 : u_ws RX3 TX3 5 = [451, 453, 455, 457, 459].filterMap (fun i => lw_tbl[i]?) ∧ (u_ws RX3 TX3 5).all goodWord = true := by decide +kernel
theorem ee_wsX4 : u_ws RX4 TX4 3 = [397, 399, 401].filterMap (fun i => lw_tbl[i]?) ∧ (u_ws RX4 TX4 3).all goodWord = true := by decide +kernel
theorem ee_wsX5 : u_ws RX5 TX5 11 = [326, 328, 330, 332, 334, 336, 338, 340, 342, 344, 346].filterMap (fun i => lw_tbl[i]?) ∧ (u_ws RX5 TX5 11).all goodWord = true := by decide +kernel
theorem ee_wsX6 : u_ws RX6 TX6 6 = [375, 377, 379, 381, 383, 385].filterMap (fun i => lw_tbl[i]?) ∧ (u_ws RX6 TX6 6).all goodWord = true := by decide +kernel
theorem ee_wsX7 : u_ws RX7 TX7 19 = [220, 222, 224, 226, 228, 230, 232, 234, 236, 238, 240, 242, 244, 246, 248, 250, 252, 254, 256].filterMap (fun i => lw_tbl[i]?) ∧ (u_ws RX7 TX7 19).all goodWord = true := by decide +kernel
theorem ee_wsX8 : u_ws RX8 TX8 12 = [524, 526, 528, 530, 532, 534, 536, 538, 540, 542, 544, 546].filterMap (fun i => lw_tbl[i]?) ∧ (u_ws RX8 TX8 12).all goodWord = true := by decide +kernel
theorem ee_wsX9 : u_ws RX9 TX9 65 = [1296, 1298, 1300, 1302, 1304, 1306, 1308, 1310, 1312, 1314, 1316, 1318, 1320, 1322, 1324, 1326, 1328, 1330, 1332, 1334, 1336, 1338, 1340, 1342, 1344, 1346, 1348, 1350, 1352, 1354, 1356, 1358, 1360, 1362, 1364, 1366, 1368, 1370, 1372, 1374, 1376, 1378, 1380, 1382, 1384, 1386, 1388, 1390, 1392, 1394, 1396, 1398, 1400, 1402, 1404, 1406, 1408, 1410, 1412, 1414, 1416, 1418, 1420, 1422, 1424].filterMap (fun i => lw_tbl[i]?) ∧ (u_ws RX9 TX9 65).all goodWord = true := by decide +kernel
theorem ee_in_of {ws : List Cond} {ps : List Nat} (h : ws = ps.filterMap (fun i => lw_tbl[i]?) ∧ ws.all goodWord = true) : ∀ w ∈ ws, w ∈ ee_tbl := fun w hw => by
  have hg := List.all_eq_true.mp h.2 w hw
  rw [h.1] at hw
  obtain ⟨i, -, hi⟩ := List.mem_filterMap.mp hw
  exact List.mem_filter.mpr ⟨List.mem_of_getElem? hi, hg⟩
/-- what the tables say of a kind -/
def ee_Kd (q : vw_C) : Prop := (∀ w ∈ u_ws q.1 q.2.1 q.2.2, w ∈ ee_tbl) ∧ (∀ a, a < q.2.2 → ∀ b, b < q.2.2 → a ≠ b → (q.2.1 a).2.1 ≠ (q.2.1 b).2.1) ∧ ∃ ty : Nat → FieldType, ∀ k, k < q.2.2 → (parseFieldDescriptor (q.2.1 k).2.2.1 = some (ty k) ∧ (q.2.1 k).1 = q.1)
theorem ee_kd : ∀ (k : Nat) (q : vw_C), vwCl[k]? = some q → ee_Kd q := by
  intro k q h
  match k, h with
  | 0, h => cases h; exact ⟨ee_in_of ee_wsX0, nmX0, tyX0, fun k hk => ⟨tyX0_ok k hk, ee_dcX0 k hk⟩⟩
  | 1, h => cases h; exact ⟨ee_in_of ee_wsX1, nmX1, tyX1, fun k hk => ⟨tyX1_ok k hk, ee_dcX1 k hk⟩⟩
  | 2, h => cases h; exact ⟨ee_in_of ee_wsX2, nmX2, tyX2, fun k hk => ⟨tyX2_ok k hk, ee_dcX2 k hk⟩⟩
  | 3, h => cases h; exact ⟨ee_in_of ee_wsX3, nmX3, tyX3, fun k hk => ⟨tyX3_ok k hk, ee_dcX3 k hk⟩⟩
  | 4, h => cases h; exact ⟨ee_in_of ee_wsX4, nmX4, tyX4, fun k hk => ⟨tyX4_ok k hk, ee_dcX4 k hk⟩⟩
  | 5, h => cases h; exact ⟨ee_in_of ee_wsX5, nmX5, tyX5, fun k hk => ⟨tyX5_ok k hk, ee_dcX5 k hk⟩⟩
  | 6, h => cases h; exact ⟨ee_in_of ee_wsX6, nmX6, tyX6, fun k hk => ⟨tyX6_ok k hk, ee_dcX6 k hk⟩⟩
  | 7, h => cases h; exact ⟨ee_in_of ee_wsX7, nmX7, tyX7, fun k hk => ⟨tyX7_ok k hk, ee_dcX7 k hk⟩⟩
  | 8, h => cases h; exact ⟨ee_in_of ee_wsX8, nmX8, tyX8, fun k hk => ⟨tyX8_ok k hk, ee_dcX8 k hk⟩⟩
  | 9, h => cases h; exact ⟨ee_in_of ee_wsX9, nmX9, tyX9, fun k hk => ⟨tyX9_ok k hk, ee_dcX9 k hk⟩⟩
  | k + 10, h => simp [vwCl] at h
theorem ee_okn : ∀ (k : Nat) (q : vw_C), vwCl[k]? = some q → ee_own[k]? = some q.1 := by
  intro k q h
  match k, h with
  | 0, h => cases h; rfl
  | 1, h => cases h; rfl
  | 2, h => cases h; rfl
  | 3, h => cases h; rfl
  | 4, h => cases h; rfl
  | 5, h => cases h; rfl
  | 6, h => cases h; rfl
  | 7, h => cases h; rfl
  | 8, h => cases h; rfl
  | 9, h => cases h; rfl
  | k + 10, h => simp [vwCl] at h
theorem ee_inst : ∀ (k : Nat) (q : vw_C), vwCl[k]? = some q → Cond.instantiable q.1 q.2.2 ∈ ee_tbl := by
  intro k q h
  match k, h with
  | 0, h => cases h; exact ee_at.mem (i := 405) (by decide +kernel)
  | 1, h => cases h; exact ee_at.mem (i := 426) (by decide +kernel)
  | 2, h => cases h; exact ee_at.mem (i := 463) (by decide +kernel)
  | 3, h => cases h; exact ee_at.mem (i := 440) (by decide +kernel)
  | 4, h => cases h; exact ee_at.mem (i := 389) (by decide +kernel)
  | 5, h => cases h; exact ee_at.mem (i := 143) (by decide +kernel)
  | 6, h => cases h; exact ee_at.mem (i := 353) (by decide +kernel)
  | 7, h => cases h; exact ee_at.mem (i := 149) (by decide +kernel)
  | 8, h => cases h; exact ee_at.mem (i := 135) (by decide +kernel)
  | 9, h => cases h; exact ee_at.mem (i := 1210) (by decide +kernel)
  | k + 10, h => simp [vwCl] at h
def ee_len : List Nat := [89, 11]
def ee_byt : List (List Int32) := [[112, 101, 114, 115, 111, 110, 32, 115, 97, 99, 107, 32, 116, 104, 105, 110, 103, 32, 115, 97, 105, 100, 32, 115, 110, 101, 101, 122, 101, 32, 100, 114, 97, 119, 32, 98, 121, 32, 116, 111, 32, 105, 110, 32, 111, 114, 32, 97, 110, 100, 32, 110, 111, 116, 32, 104, 111, 116, 32, 115, 104, 121, 32, 103, 117, 101, 115, 116, 115, 32, 103, 114, 111, 117, 110, 100, 32, 104, 101, 97, 116, 32, 99, 111, 117, 114, 115, 101, 32], [59, 40, 41, 60, 62, 61, 43, 45, 42, 47, 37]]
def ee_six : List Nat := [30, 73]
def ee_stx : List String := ["person sack thing said sneeze draw by to in or and not hot shy guests ground heat course ", ";()<>=+-*/%"]
