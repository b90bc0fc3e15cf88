/-! THE SMALL MACHINE, part 5: kinds of objects, their fields; what each number of the code names. -/
def KT_0 : u_T := fun k => match k with
  | 0 => ("PageInterpreter", "reader", "LPageInterpreter$Reader;", true)
  | 1 => ("PageInterpreter", "state", "LPageInterpreter$State;", true)
  | 2 => ("PageInterpreter", "saved", "[LPageInterpreter$State;", true)
  | 3 => ("PageInterpreter", "machine", "LPageInterpreter$Machine;", true)
  | _ => ("PageInterpreter", "savedCount", "I", false)
def KY_0 : Nat → FieldType := fun k => match k with
  | 0 => .object "PageInterpreter$Reader"
  | 1 => .object "PageInterpreter$State"
  | 2 => .array (.object "PageInterpreter$State")
  | 3 => .object "PageInterpreter$Machine"
  | _ => .int
def KT_1 : u_T := fun k => match k with
  | 0 => ("PageInterpreter$Reader", "text", "[I", true)
  | 1 => ("PageInterpreter$Reader", "operators", "[LPageInterpreter$Operator;", true)
  | 2 => ("PageInterpreter$Reader", "literals", "[J", true)
  | 3 => ("PageInterpreter$Reader", "partners", "[I", true)
  | 4 => ("PageInterpreter$Reader", "structure", "LPageInterpreter$Structure;", true)
  | 5 => ("PageInterpreter$Reader", "length", "I", false)
  | _ => ("PageInterpreter$Reader", "tokens", "I", false)
def KY_1 : Nat → FieldType := fun k => match k with
  | 0 => .array .int
  | 1 => .array (.object "PageInterpreter$Operator")
  | 2 => .array .long
  | 3 => .array .int
  | 4 => .object "PageInterpreter$Structure"
  | 5 => .int
  | _ => .int
def KT_2 : u_T := fun k => match k with
  | 0 => ("PageInterpreter$Structure", "openOperators", "[LPageInterpreter$Operator;", true)
  | 1 => ("PageInterpreter$Structure", "openTokens", "[I", true)
  | 2 => ("PageInterpreter$Structure", "open", "I", false)
  | 3 => ("PageInterpreter$Structure", "openSaves", "I", false)
  | 4 => ("PageInterpreter$Structure", "openRepeats", "I", false)
  | 5 => ("PageInterpreter$Structure", "pathOpen", "Z", false)
  | 6 => ("PageInterpreter$Structure", "partOpen", "Z", false)
  | _ => ("PageInterpreter$Structure", "marked", "Z", false)
def KY_2 : Nat → FieldType := fun k => match k with
  | 0 => .array (.object "PageInterpreter$Operator")
  | 1 => .array .int
  | 2 => .int
  | 3 => .int
  | 4 => .int
  | 5 => .boolean
  | 6 => .boolean
  | _ => .boolean
def KT_3 : u_T := fun k => match k with
  | 0 => ("PageInterpreter$State", "programs", "[LPageInterpreter$Program;", true)
  | 1 => ("PageInterpreter$State", "hasBox", "[Z", true)
  | 2 => ("PageInterpreter$State", "boxes", "[I", true)
  | 3 => ("PageInterpreter$State", "resources", "[I", true)
  | 4 => ("PageInterpreter$State", "width", "I", false)
  | 5 => ("PageInterpreter$State", "height", "I", false)
  | _ => ("PageInterpreter$State", "budget", "I", false)
def KY_3 : Nat → FieldType := fun k => match k with
  | 0 => .array (.object "PageInterpreter$Program")
  | 1 => .array .boolean
  | 2 => .array .int
  | 3 => .array .int
  | 4 => .int
  | 5 => .int
  | _ => .int
def KT_4 : u_T := fun k => match k with
  | 0 => ("PageInterpreter$Machine", "frames", "[LPageInterpreter$Frame;", true)
  | 1 => ("PageInterpreter$Machine", "states", "[LPageInterpreter$Graphics;", true)
  | 2 => ("PageInterpreter$Machine", "items", "LPageInterpreter$Items;", true)
  | 3 => ("PageInterpreter$Machine", "paths", "LPageInterpreter$Paths;", true)
  | 4 => ("PageInterpreter$Machine", "countedStreams", "[I", true)
  | 5 => ("PageInterpreter$Machine", "countedTokens", "[I", true)
  | 6 => ("PageInterpreter$Machine", "countedForms", "[I", true)
  | 7 => ("PageInterpreter$Machine", "newMatrix", "[J", true)
  | 8 => ("PageInterpreter$Machine", "corners", "[I", true)
  | 9 => ("PageInterpreter$Machine", "state", "LPageInterpreter$State;", false)
  | 10 => ("PageInterpreter$Machine", "hasRun", "Z", false)
  | 11 => ("PageInterpreter$Machine", "depth", "I", false)
  | 12 => ("PageInterpreter$Machine", "top", "I", false)
  | 13 => ("PageInterpreter$Machine", "counted", "I", false)
  | 14 => ("PageInterpreter$Machine", "deepest", "I", false)
  | 15 => ("PageInterpreter$Machine", "error", "I", false)
  | 16 => ("PageInterpreter$Machine", "errorStream", "I", false)
  | _ => ("PageInterpreter$Machine", "errorToken", "I", false)
def KY_4 : Nat → FieldType := fun k => match k with
  | 0 => .array (.object "PageInterpreter$Frame")
  | 1 => .array (.object "PageInterpreter$Graphics")
  | 2 => .object "PageInterpreter$Items"
  | 3 => .object "PageInterpreter$Paths"
  | 4 => .array .int
  | 5 => .array .int
  | 6 => .array .int
  | 7 => .array .long
  | 8 => .array .int
  | 9 => .object "PageInterpreter$State"
  | 10 => .boolean
  | 11 => .int
  | 12 => .int
  | 13 => .int
  | 14 => .int
  | 15 => .int
  | 16 => .int
  | _ => .int
def KT_5 : u_T := fun k => match k with
  | 0 => ("PageInterpreter$Paths", "xs", "[I", true)
  | 1 => ("PageInterpreter$Paths", "ys", "[I", true)
  | 2 => ("PageInterpreter$Paths", "startsPart", "[Z", true)
  | 3 => ("PageInterpreter$Paths", "starts", "[I", true)
  | 4 => ("PageInterpreter$Paths", "oddClip", "[Z", true)
  | 5 => ("PageInterpreter$Paths", "ended", "I", false)
  | 6 => ("PageInterpreter$Paths", "points", "I", false)
  | _ => ("PageInterpreter$Paths", "marked", "Z", false)
def KY_5 : Nat → FieldType := fun k => match k with
  | 0 => .array .int
  | 1 => .array .int
  | 2 => .array .boolean
  | 3 => .array .int
  | 4 => .array .boolean
  | 5 => .int
  | 6 => .int
  | _ => .boolean
def KT_6 : u_T := fun k => match k with
  | 0 => ("PageInterpreter$Items", "paths", "LPageInterpreter$Paths;", true)
  | 1 => ("PageInterpreter$Items", "pathOf", "[I", true)
  | 2 => ("PageInterpreter$Items", "odd", "[Z", true)
  | 3 => ("PageInterpreter$Items", "colors", "[I", true)
  | 4 => ("PageInterpreter$Items", "streams", "[I", true)
  | 5 => ("PageInterpreter$Items", "tokens", "[I", true)
  | 6 => ("PageInterpreter$Items", "clipCounts", "[I", true)
  | 7 => ("PageInterpreter$Items", "clips", "[I", true)
  | _ => ("PageInterpreter$Items", "count", "I", false)
def KY_6 : Nat → FieldType := fun k => match k with
  | 0 => .object "PageInterpreter$Paths"
  | 1 => .array .int
  | 2 => .array .boolean
  | 3 => .array .int
  | 4 => .array .int
  | 5 => .array .int
  | 6 => .array .int
  | 7 => .array .int
  | _ => .int
def KT_7 : u_T := fun k => match k with
  | 0 => ("PageInterpreter$Frame", "operands", "[J", true)
  | 1 => ("PageInterpreter$Frame", "loopStarts", "[I", true)
  | 2 => ("PageInterpreter$Frame", "loopsLeft", "[I", true)
  | 3 => ("PageInterpreter$Frame", "program", "LPageInterpreter$Program;", false)
  | 4 => ("PageInterpreter$Frame", "stream", "I", false)
  | 5 => ("PageInterpreter$Frame", "token", "I", false)
  | 6 => ("PageInterpreter$Frame", "size", "I", false)
  | _ => ("PageInterpreter$Frame", "loops", "I", false)
def KY_7 : Nat → FieldType := fun k => match k with
  | 0 => .array .long
  | 1 => .array .int
  | 2 => .array .int
  | 3 => .object "PageInterpreter$Program"
  | 4 => .int
  | 5 => .int
  | 6 => .int
  | _ => .int
def KT_8 : u_T := fun k => match k with
  | 0 => ("PageInterpreter$Graphics", "matrix", "[J", true)
  | 1 => ("PageInterpreter$Graphics", "clips", "[I", true)
  | 2 => ("PageInterpreter$Graphics", "clipCount", "I", false)
  | _ => ("PageInterpreter$Graphics", "color", "I", false)
def KY_8 : Nat → FieldType := fun k => match k with
  | 0 => .array .long
  | 1 => .array .int
  | 2 => .int
  | _ => .int
def KT_9 : u_T := fun k => match k with
  | 0 => ("PageInterpreter$Program", "operators", "[LPageInterpreter$Operator;", true)
  | 1 => ("PageInterpreter$Program", "literals", "[J", true)
  | 2 => ("PageInterpreter$Program", "partners", "[I", true)
  | _ => ("PageInterpreter$Program", "length", "I", true)
def KY_9 : Nat → FieldType := fun k => match k with
  | 0 => .array (.object "PageInterpreter$Operator")
  | 1 => .array .long
  | 2 => .array .int
  | _ => .int
def KT_10 : u_T := fun k => match k with
  | 0 => ("PageInterpreterModel", "s", "[I", true)
  | 1 => ("PageInterpreterModel", "past", "[I", true)
  | 2 => ("PageInterpreterModel", "pasts", "I", false)
  | 3 => ("PageInterpreterModel", "text", "[I", true)
  | 4 => ("PageInterpreterModel", "typed", "I", false)
  | 5 => ("PageInterpreterModel", "from", "I", false)
  | 6 => ("PageInterpreterModel", "at", "I", false)
  | 7 => ("PageInterpreterModel", "code", "I", false)
  | 8 => ("PageInterpreterModel", "open", "[I", true)
  | 9 => ("PageInterpreterModel", "opened", "I", false)
  | 10 => ("PageInterpreterModel", "isPath", "Z", false)
  | 11 => ("PageInterpreterModel", "isPart", "Z", false)
  | 12 => ("PageInterpreterModel", "isMarked", "Z", false)
  | 13 => ("PageInterpreterModel", "told", "[I", true)
  | 14 => ("PageInterpreterModel", "up", "J", false)
  | 15 => ("PageInterpreterModel", "down", "J", false)
  | 16 => ("PageInterpreterModel", "isBeyond", "Z", false)
  | 17 => ("PageInterpreterModel", "g", "[I", true)
  | 18 => ("PageInterpreterModel", "kept", "[I", true)
  | 19 => ("PageInterpreterModel", "keptMany", "I", false)
  | 20 => ("PageInterpreterModel", "deviceX", "I", false)
  | 21 => ("PageInterpreterModel", "deviceY", "I", false)
  | 22 => ("PageInterpreterModel", "x", "[I", true)
  | 23 => ("PageInterpreterModel", "y", "[I", true)
  | 24 => ("PageInterpreterModel", "begin", "[I", true)
  | 25 => ("PageInterpreterModel", "points", "I", false)
  | 26 => ("PageInterpreterModel", "parts", "I", false)
  | 27 => ("PageInterpreterModel", "mark", "I", false)
  | 28 => ("PageInterpreterModel", "pathX", "[I", true)
  | 29 => ("PageInterpreterModel", "pathY", "[I", true)
  | 30 => ("PageInterpreterModel", "pathBegin", "[I", true)
  | 31 => ("PageInterpreterModel", "pathPoints", "[I", true)
  | 32 => ("PageInterpreterModel", "pathParts", "[I", true)
  | 33 => ("PageInterpreterModel", "paths", "I", false)
  | 34 => ("PageInterpreterModel", "item", "[I", true)
  | 35 => ("PageInterpreterModel", "items", "I", false)
  | 36 => ("PageInterpreterModel", "level", "I", false)
  | 37 => ("PageInterpreterModel", "streamOf", "[I", true)
  | 38 => ("PageInterpreterModel", "pc", "[I", true)
  | 39 => ("PageInterpreterModel", "many", "[I", true)
  | 40 => ("PageInterpreterModel", "opUp", "[I", true)
  | 41 => ("PageInterpreterModel", "opDown", "[I", true)
  | 42 => ("PageInterpreterModel", "loops", "[I", true)
  | 43 => ("PageInterpreterModel", "loopAt", "[I", true)
  | 44 => ("PageInterpreterModel", "loopLeft", "[I", true)
  | 45 => ("PageInterpreterModel", "isRun", "Z", false)
  | 46 => ("PageInterpreterModel", "error", "I", false)
  | 47 => ("PageInterpreterModel", "errorStream", "I", false)
  | 48 => ("PageInterpreterModel", "errorToken", "I", false)
  | 49 => ("PageInterpreterModel", "counted", "I", false)
  | 50 => ("PageInterpreterModel", "deepest", "I", false)
  | 51 => ("PageInterpreterModel", "trace", "[I", true)
  | 52 => ("PageInterpreterModel", "product", "[I", true)
  | 53 => ("PageInterpreterModel", "asideX", "[I", true)
  | _ => ("PageInterpreterModel", "asideY", "[I", true)
def KY_10 : Nat → FieldType := fun k => match k with
  | 0 => .array .int
  | 1 => .array .int
  | 2 => .int
  | 3 => .array .int
  | 4 => .int
  | 5 => .int
  | 6 => .int
  | 7 => .int
  | 8 => .array .int
  | 9 => .int
  | 10 => .boolean
  | 11 => .boolean
  | 12 => .boolean
  | 13 => .array .int
  | 14 => .long
  | 15 => .long
  | 16 => .boolean
  | 17 => .array .int
  | 18 => .array .int
  | 19 => .int
  | 20 => .int
  | 21 => .int
  | 22 => .array .int
  | 23 => .array .int
  | 24 => .array .int
  | 25 => .int
  | 26 => .int
  | 27 => .int
  | 28 => .array .int
  | 29 => .array .int
  | 30 => .array .int
  | 31 => .array .int
  | 32 => .array .int
  | 33 => .int
  | 34 => .array .int
  | 35 => .int
  | 36 => .int
  | 37 => .array .int
  | 38 => .array .int
  | 39 => .array .int
  | 40 => .array .int
  | 41 => .array .int
  | 42 => .array .int
  | 43 => .array .int
  | 44 => .array .int
  | 45 => .boolean
  | 46 => .int
  | 47 => .int
  | 48 => .int
  | 49 => .int
  | 50 => .int
  | 51 => .array .int
  | 52 => .array .int
  | 53 => .array .int
  | _ => .array .int
abbrev kcl : List vw_C := [("PageInterpreter", KT_0, 5), ("PageInterpreter$Reader", KT_1, 7), ("PageInterpreter$Structure", KT_2, 8), ("PageInterpreter$State", KT_3, 7), ("PageInterpreter$Machine", KT_4, 18), ("PageInterpreter$Paths", KT_5, 8), ("PageInterpreter$Items", KT_6, 9), ("PageInterpreter$Frame", KT_7, 8), ("PageInterpreter$Graphics", KT_8, 4), ("PageInterpreter$Program", KT_9, 4), ("PageInterpreterModel", KT_10, 55)]
def kR (c : Nat) : String := (kcl.getD c ("", KT_0, 0)).1
def kT (c : Nat) : u_T := (kcl.getD c ("", KT_0, 0)).2.1
def kN (c : Nat) : Nat := (kcl.getD c ("", KT_0, 0)).2.2
def kYL : List (Nat → FieldType) := [KY_0, KY_1, KY_2, KY_3, KY_4, KY_5, KY_6, KY_7, KY_8, KY_9, KY_10]
def kY (c : Nat) : Nat → FieldType := kYL.getD c KY_0
def gtbl : List Cond := lw_tbl.filter goodWord
def isNest : Cond → Bool
  | .methodLinkNest .. => true
  | .fieldLinkNest .. => true
  | .declares .. => true
  | .arrayOver (.object _) => true
  | _ => false
def ntbl : List Cond := lw_tbl.filter isNest
def mg (p : Nat) (w : Cond) : Bool := decide (lw_tbl[p]? = some w) && goodWord w
def mn (p : Nat) (w : Cond) : Bool := decide (lw_tbl[p]? = some w) && isNest w
theorem mg_ok {p : Nat} {w : Cond} (h : mg p w = true) : w ∈ gtbl := by
  simp only [mg, Bool.and_eq_true, decide_eq_true_eq] at h
  exact List.mem_filter.mpr ⟨List.mem_of_getElem? h.1, h.2⟩
theorem mn_ok {p : Nat} {w : Cond} (h : mn p w = true) : w ∈ ntbl := by
  simp only [mn, Bool.and_eq_true, decide_eq_true_eq] at h
  exact List.mem_filter.mpr ⟨List.mem_of_getElem? h.1, h.2⟩
theorem zip_all {α β : Type} {f : α × β → Bool} : ∀ {l : List α} {ps : List β}, l.length = ps.length → (l.zip ps).all f = true → ∀ q ∈ l, ∃ p, f (q, p) = true
  | [], _, _, _, q, hq => absurd hq List.not_mem_nil
  | _ :: _, [], h, _, _, _ => by simp at h
  | a :: l, p :: ps, h, hf, q, hq => by
    simp only [List.zip_cons_cons, List.all_cons, Bool.and_eq_true] at hf
    rcases List.mem_cons.mp hq with rfl | hq
    · exact ⟨p, hf.1⟩
    · exact zip_all (by simpa using h) hf.2 q hq
def ktag (d : String) : Nat := if d = "I" then 0 else if d = "J" then 1 else if d = "Z" then 3 else 2
theorem kin_0 : ∀ w ∈ u_ws "PageInterpreter" KT_0 5, w ∈ gtbl := by decide +kernel
theorem knm_0 : ∀ a, a < 5 → ∀ b, b < 5 → a ≠ b → (KT_0 a).2.1 ≠ (KT_0 b).2.1 := by decide +kernel
theorem kty_0 : ∀ k, k < 5 → parseFieldDescriptor (KT_0 k).2.2.1 = some (KY_0 k) := by decide +kernel
theorem kin_1 : ∀ w ∈ u_ws "PageInterpreter$Reader" KT_1 7, w ∈ gtbl := by decide +kernel
theorem knm_1 : ∀ a, a < 7 → ∀ b, b < 7 → a ≠ b → (KT_1 a).2.1 ≠ (KT_1 b).2.1 := by decide +kernel
theorem kty_1 : ∀ k, k < 7 → parseFieldDescriptor (KT_1 k).2.2.1 = some (KY_1 k) := by decide +kernel
theorem kin_2 : ∀ w ∈ u_ws "PageInterpreter$Structure" KT_2 8, w ∈ gtbl := by decide +kernel
theorem knm_2 : ∀ a, a < 8 → ∀ b, b < 8 → a ≠ b → (KT_2 a).2.1 ≠ (KT_2 b).2.1 := by decide +kernel
theorem kty_2 : ∀ k, k < 8 → parseFieldDescriptor (KT_2 k).2.2.1 = some (KY_2 k) := by decide +kernel
theorem kin_3 : ∀ w ∈ u_ws "PageInterpreter$State" KT_3 7, w ∈ gtbl := by decide +kernel
theorem knm_3 : ∀ a, a < 7 → ∀ b, b < 7 → a ≠ b → (KT_3 a).2.1 ≠ (KT_3 b).2.1 := by decide +kernel
theorem kty_3 : ∀ k, k < 7 → parseFieldDescriptor (KT_3 k).2.2.1 = some (KY_3 k) := by decide +kernel
theorem kin_4 : ∀ w ∈ u_ws "PageInterpreter$Machine" KT_4 18, w ∈ gtbl := by decide +kernel
theorem knm_4 : ∀ a, a < 18 → ∀ b, b < 18 → a ≠ b → (KT_4 a).2.1 ≠ (KT_4 b).2.1 := by decide +kernel
theorem kty_4 : ∀ k, k < 18 → parseFieldDescriptor (KT_4 k).2.2.1 = some (KY_4 k) := by decide +kernel
theorem kin_5 : ∀ w ∈ u_ws "PageInterpreter$Paths" KT_5 8, w ∈ gtbl := by decide +kernel
theorem knm_5 : ∀ a, a < 8 → ∀ b, b < 8 → a ≠ b → (KT_5 a).2.1 ≠ (KT_5 b).2.1 := by decide +kernel
theorem kty_5 : ∀ k, k < 8 → parseFieldDescriptor (KT_5 k).2.2.1 = some (KY_5 k) := by decide +kernel
theorem kin_6 : ∀ w ∈ u_ws "PageInterpreter$Items" KT_6 9, w ∈ gtbl := by decide +kernel
theorem knm_6 : ∀ a, a < 9 → ∀ b, b < 9 → a ≠ b → (KT_6 a).2.1 ≠ (KT_6 b).2.1 := by decide +kernel
theorem kty_6 : ∀ k, k < 9 → parseFieldDescriptor (KT_6 k).2.2.1 = some (KY_6 k) := by decide +kernel
theorem kin_7 : ∀ w ∈ u_ws "PageInterpreter$Frame" KT_7 8, w ∈ gtbl := by decide +kernel
theorem knm_7 : ∀ a, a < 8 → ∀ b, b < 8 → a ≠ b → (KT_7 a).2.1 ≠ (KT_7 b).2.1 := by decide +kernel
theorem kty_7 : ∀ k, k < 8 → parseFieldDescriptor (KT_7 k).2.2.1 = some (KY_7 k) := by decide +kernel
theorem kin_8 : ∀ w ∈ u_ws "PageInterpreter$Graphics" KT_8 4, w ∈ gtbl := by decide +kernel
theorem knm_8 : ∀ a, a < 4 → ∀ b, b < 4 → a ≠ b → (KT_8 a).2.1 ≠ (KT_8 b).2.1 := by decide +kernel
theorem kty_8 : ∀ k, k < 4 → parseFieldDescriptor (KT_8 k).2.2.1 = some (KY_8 k) := by decide +kernel
theorem kin_9 : ∀ w ∈ u_ws "PageInterpreter$Program" KT_9 4, w ∈ gtbl := by decide +kernel
theorem knm_9 : ∀ a, a < 4 → ∀ b, b < 4 → a ≠ b → (KT_9 a).2.1 ≠ (KT_9 b).2.1 := by decide +kernel
theorem kty_9 : ∀ k, k < 4 → parseFieldDescriptor (KT_9 k).2.2.1 = some (KY_9 k) := by decide +kernel
theorem kin_10 : ∀ w ∈ u_ws "PageInterpreterModel" KT_10 55, w ∈ gtbl := by decide +kernel
theorem knm_10 : ∀ a, a < 55 → ∀ b, b < 55 → a ≠ b → (KT_10 a).2.1 ≠ (KT_10 b).2.1 := by decide +kernel
theorem kty_10 : ∀ k, k < 55 → parseFieldDescriptor (KT_10 k).2.2.1 = some (KY_10 k) := by decide +kernel
theorem kin : ∀ c, c < 11 → ∀ w ∈ u_ws (kR c) (kT c) (kN c), w ∈ gtbl := by
  intro c hc
  rcases (show c = 0 ∨ c = 1 ∨ c = 2 ∨ c = 3 ∨ c = 4 ∨ c = 5 ∨ c = 6 ∨ c = 7 ∨ c = 8 ∨ c = 9 ∨ c = 10 by omega) with rfl | rfl | rfl | rfl | rfl | rfl | rfl | rfl | rfl | rfl | rfl
  · exact kin_0
  · exact kin_1
  · exact kin_2
  · exact kin_3
  · exact kin_4
  · exact kin_5
  · exact kin_6
  · exact kin_7
  · exact kin_8
  · exact kin_9
  · exact kin_10
theorem knm : ∀ c, c < 11 → ∀ a, a < kN c → ∀ b, b < kN c → a ≠ b → (kT c a).2.1 ≠ (kT c b).2.1 := by
  intro c hc
  rcases (show c = 0 ∨ c = 1 ∨ c = 2 ∨ c = 3 ∨ c = 4 ∨ c = 5 ∨ c = 6 ∨ c = 7 ∨ c = 8 ∨ c = 9 ∨ c = 10 by omega) with rfl | rfl | rfl | rfl | rfl | rfl | rfl | rfl | rfl | rfl | rfl
  · exact knm_0
  · exact knm_1
  · exact knm_2
  · exact knm_3
  · exact knm_4
  · exact knm_5
  · exact knm_6
  · exact knm_7
  · exact knm_8
  · exact knm_9
  · exact knm_10
theorem kty : ∀ c, c < 11 → ∀ k, k < kN c → parseFieldDescriptor (kT c k).2.2.1 = some (kY c k) := by
  intro c hc
  rcases (show c = 0 ∨ c = 1 ∨ c = 2 ∨ c = 3 ∨ c = 4 ∨ c = 5 ∨ c = 6 ∨ c = 7 ∨ c = 8 ∨ c = 9 ∨ c = 10 by omega) with rfl | rfl | rfl | rfl | rfl | rfl | rfl | rfl | rfl | rfl | rfl
  · exact kty_0
  · exact kty_1
  · exact kty_2
  · exact kty_3
  · exact kty_4
  · exact kty_5
  · exact kty_6
  · exact kty_7
  · exact kty_8
  · exact kty_9
  · exact kty_10
theorem kcl_at : ∀ c, c < 11 → kcl[c]? = some (kR c, kT c, kN c) := by
  intro c hc
  rcases (show c = 0 ∨ c = 1 ∨ c = 2 ∨ c = 3 ∨ c = 4 ∨ c = 5 ∨ c = 6 ∨ c = 7 ∨ c = 8 ∨ c = 9 ∨ c = 10 by omega) with rfl | rfl | rfl | rfl | rfl | rfl | rfl | rfl | rfl | rfl | rfl <;> rfl
