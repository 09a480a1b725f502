/-- all words that go with a call, and the nest mates' words -/
def wAll : List Cond := lw_tbl.filter goodWord
def nestW (w : Cond) : Bool := match w with
  | .fieldLinkNest _ _ _ _ _ _ => true
  | .methodLinkNest _ _ _ _ => true
  | _ => false
def nwAll : List Cond := lw_tbl.filter nestW
theorem mw {w : Cond} (i : Nat) (h : tables_1[i]? = some w) (hg : goodWord w = true) : w ∈ wAll := List.mem_filter.mpr ⟨List.mem_append_right _ (List.mem_of_getElem? h), hg⟩
theorem mwP {w : Cond} (i : Nat) (h : (k2_sels lw_privs)[i]? = some w) (hg : goodWord w = true) : w ∈ wAll := List.mem_filter.mpr ⟨List.mem_append_left _ (List.mem_of_getElem? h), hg⟩
theorem mwN {w : Cond} (i : Nat) (h : tables_1[i]? = some w) (hg : nestW w = true) : w ∈ nwAll := List.mem_filter.mpr ⟨List.mem_append_right _ (List.mem_of_getElem? h), hg⟩
theorem goodAll {c1 c2 : Cond} (h : c2 ∈ wAll) : GoodIn (c1 :: wAll) (c2 :: wAll) := by
  have g : ∀ w ∈ wAll, w ∈ (c1 :: wAll) ∧ ((w.onTables && w.keeps) = true ∨ ∃ ty, w = .arrayClass ty) := fun w hw => ⟨List.mem_cons_of_mem _ hw, good_of_word (List.mem_filter.mp hw).2⟩
  intro w hw
  rcases List.mem_cons.mp hw with rfl | hw
  · exact g _ h
  · exact g w hw
theorem goodV {c1 c2 : Cond} {own C : String} {i : Nat} {y : MethodName} (h1 : Cond.methodLink own i y ∈ wAll) (h2 : Cond.instanceMethod y ∈ wAll) (h3 : Cond.selects C y y ∈ wAll) (h4 : Cond.initialized C ∈ wAll) (h5 : c2 ∈ wAll) : GoodIn (c1 :: wAll) (wsV own i C y (c2 :: wAll)) := by
  have g : ∀ w ∈ wAll, w ∈ (c1 :: wAll) ∧ ((w.onTables && w.keeps) = true ∨ ∃ ty, w = .arrayClass ty) := fun w hw => ⟨List.mem_cons_of_mem _ hw, good_of_word (List.mem_filter.mp hw).2⟩
  intro w hw
  rcases List.mem_append.mp hw with hw | hw
  · simp only [List.mem_cons, List.not_mem_nil, or_false] at hw
    rcases hw with rfl | rfl | rfl | rfl
    · exact g _ h1
    · exact g _ h2
    · exact g _ h3
    · exact g _ h4
  · exact goodAll h5 w hw
theorem goodS {c1 c2 : Cond} {own : String} {i : Nat} {y : MethodName} (h1 : Cond.methodLink own i y ∈ wAll) (h2 : Cond.static y ∈ wAll) (h4 : Cond.initialized y.cls ∈ wAll) (h5 : c2 ∈ wAll) : GoodIn (c1 :: wAll) (va_wsS own i y (c2 :: wAll)) := by
  have g : ∀ w ∈ wAll, w ∈ (c1 :: wAll) ∧ ((w.onTables && w.keeps) = true ∨ ∃ ty, w = .arrayClass ty) := fun w hw => ⟨List.mem_cons_of_mem _ hw, good_of_word (List.mem_filter.mp hw).2⟩
  intro w hw
  rcases List.mem_append.mp hw with hw | hw
  · simp only [List.mem_cons, List.not_mem_nil, or_false] at hw
    rcases hw with rfl | rfl | rfl
    · exact g _ h1
    · exact g _ h2
    · exact g _ h4
  · exact goodAll h5 w hw
def u9T_I : u_T := fun k => match k with
  | 0 => ("ClassInference", "typeTable", "LClassInference$TypeTable;", true)
  | 1 => ("ClassInference", "classTable", "LClassInference$ClassTable;", true)
  | 2 => ("ClassInference", "expressionTable", "LClassInference$ExpressionTable;", true)
  | 3 => ("ClassInference", "typer", "LClassInference$Typer;", true)
  | _ => ("ClassInference", "told", "LClassInference$Told;", true)
def u9t_I : Nat → FieldType := fun k => match k with
  | 0 => .object "ClassInference$TypeTable"
  | 1 => .object "ClassInference$ClassTable"
  | 2 => .object "ClassInference$ExpressionTable"
  | 3 => .object "ClassInference$Typer"
  | _ => .object "ClassInference$Told"
set_option maxRecDepth 100000 in
theorem u9n_I : ∀ a, a < 5 → ∀ b, b < 5 → a ≠ b → (u9T_I a).2.1 ≠ (u9T_I b).2.1 := by decide +kernel
set_option maxRecDepth 100000 in
theorem u9k_I : ∀ k, k < 5 → parseFieldDescriptor (u9T_I k).2.2.1 = some (u9t_I k) := by decide +kernel
set_option maxRecDepth 100000 in
theorem u9i_I : ∀ w ∈ u_ws "ClassInference" u9T_I 5, w ∈ wAll := by decide +kernel
def u9T_T : u_T := fun k => match k with
  | 0 => ("ClassInference$TypeTable", "parts", "[I", true)
  | 1 => ("ClassInference$TypeTable", "constructorCount", "I", false)
  | 2 => ("ClassInference$TypeTable", "head", "[I", true)
  | 3 => ("ClassInference$TypeTable", "first", "[I", true)
  | 4 => ("ClassInference$TypeTable", "second", "[I", true)
  | 5 => ("ClassInference$TypeTable", "nodes", "[I", true)
  | 6 => ("ClassInference$TypeTable", "variableBits", "[I", true)
  | _ => ("ClassInference$TypeTable", "count", "I", false)
def u9t_T : Nat → FieldType := fun k => match k with
  | 0 => .array .int
  | 1 => .int
  | 2 => .array .int
  | 3 => .array .int
  | 4 => .array .int
  | 5 => .array .int
  | 6 => .array .int
  | _ => .int
set_option maxRecDepth 100000 in
theorem u9n_T : ∀ a, a < 8 → ∀ b, b < 8 → a ≠ b → (u9T_T a).2.1 ≠ (u9T_T b).2.1 := by decide +kernel
set_option maxRecDepth 100000 in
theorem u9k_T : ∀ k, k < 8 → parseFieldDescriptor (u9T_T k).2.2.1 = some (u9t_T k) := by decide +kernel
set_option maxRecDepth 100000 in
theorem u9i_T : ∀ w ∈ u_ws "ClassInference$TypeTable" u9T_T 8, w ∈ wAll := by decide +kernel
def u9T_K : u_T := fun k => match k with
  | 0 => ("ClassInference$ClassTable", "above", "[I", true)
  | 1 => ("ClassInference$ClassTable", "reach", "[I", true)
  | 2 => ("ClassInference$ClassTable", "methodType", "[I", true)
  | 3 => ("ClassInference$ClassTable", "count", "I", false)
  | 4 => ("ClassInference$ClassTable", "instanceNumber", "[I", true)
  | 5 => ("ClassInference$ClassTable", "wantedOfFirst", "[I", true)
  | 6 => ("ClassInference$ClassTable", "wantedOfSecond", "[I", true)
  | _ => ("ClassInference$ClassTable", "instanceCount", "I", false)
def u9t_K : Nat → FieldType := fun k => match k with
  | 0 => .array .int
  | 1 => .array .int
  | 2 => .array .int
  | 3 => .int
  | 4 => .array .int
  | 5 => .array .int
  | 6 => .array .int
  | _ => .int
set_option maxRecDepth 100000 in
theorem u9n_K : ∀ a, a < 8 → ∀ b, b < 8 → a ≠ b → (u9T_K a).2.1 ≠ (u9T_K b).2.1 := by decide +kernel
set_option maxRecDepth 100000 in
theorem u9k_K : ∀ k, k < 8 → parseFieldDescriptor (u9T_K k).2.2.1 = some (u9t_K k) := by decide +kernel
set_option maxRecDepth 100000 in
theorem u9i_K : ∀ w ∈ u_ws "ClassInference$ClassTable" u9T_K 8, w ∈ wAll := by decide +kernel
def u9T_E : u_T := fun k => match k with
  | 0 => ("ClassInference$ExpressionTable", "kind", "[I", true)
  | 1 => ("ClassInference$ExpressionTable", "a", "[I", true)
  | 2 => ("ClassInference$ExpressionTable", "b", "[I", true)
  | 3 => ("ClassInference$ExpressionTable", "c", "[I", true)
  | 4 => ("ClassInference$ExpressionTable", "nodes", "[I", true)
  | _ => ("ClassInference$ExpressionTable", "count", "I", false)
def u9t_E : Nat → FieldType := fun k => match k with
  | 0 => .array .int
  | 1 => .array .int
  | 2 => .array .int
  | 3 => .array .int
  | 4 => .array .int
  | _ => .int
set_option maxRecDepth 100000 in
theorem u9n_E : ∀ a, a < 6 → ∀ b, b < 6 → a ≠ b → (u9T_E a).2.1 ≠ (u9T_E b).2.1 := by decide +kernel
set_option maxRecDepth 100000 in
theorem u9k_E : ∀ k, k < 6 → parseFieldDescriptor (u9T_E k).2.2.1 = some (u9t_E k) := by decide +kernel
set_option maxRecDepth 100000 in
theorem u9i_E : ∀ w ∈ u_ws "ClassInference$ExpressionTable" u9T_E 6, w ∈ wAll := by decide +kernel
def u9T_Y : u_T := fun k => match k with
  | 0 => ("ClassInference$Typer", "typeTable", "LClassInference$TypeTable;", true)
  | 1 => ("ClassInference$Typer", "classTable", "LClassInference$ClassTable;", true)
  | 2 => ("ClassInference$Typer", "expressionTable", "LClassInference$ExpressionTable;", true)
  | 3 => ("ClassInference$Typer", "graph", "LClassInference$Graph;", true)
  | 4 => ("ClassInference$Typer", "aroundName", "[I", true)
  | 5 => ("ClassInference$Typer", "aroundType", "[I", true)
  | 6 => ("ClassInference$Typer", "aroundWants", "[I", true)
  | 7 => ("ClassInference$Typer", "around", "I", false)
  | 8 => ("ClassInference$Typer", "fresh", "[I", true)
  | 9 => ("ClassInference$Typer", "settling", "I", false)
  | 10 => ("ClassInference$Typer", "whole", "I", false)
  | 11 => ("ClassInference$Typer", "handed", "I", false)
  | 12 => ("ClassInference$Typer", "lacks", "Z", false)
  | _ => ("ClassInference$Typer", "ambiguous", "Z", false)
def u9t_Y : Nat → FieldType := fun k => match k with
  | 0 => .object "ClassInference$TypeTable"
  | 1 => .object "ClassInference$ClassTable"
  | 2 => .object "ClassInference$ExpressionTable"
  | 3 => .object "ClassInference$Graph"
  | 4 => .array .int
  | 5 => .array .int
  | 6 => .array .int
  | 7 => .int
  | 8 => .array .int
  | 9 => .int
  | 10 => .int
  | 11 => .int
  | 12 => .boolean
  | _ => .boolean
set_option maxRecDepth 100000 in
theorem u9n_Y : ∀ a, a < 14 → ∀ b, b < 14 → a ≠ b → (u9T_Y a).2.1 ≠ (u9T_Y b).2.1 := by decide +kernel
set_option maxRecDepth 100000 in
theorem u9k_Y : ∀ k, k < 14 → parseFieldDescriptor (u9T_Y k).2.2.1 = some (u9t_Y k) := by decide +kernel
set_option maxRecDepth 100000 in
theorem u9i_Y : ∀ w ∈ u_ws "ClassInference$Typer" u9T_Y 14, w ∈ wAll := by decide +kernel
def u9T_G : u_T := fun k => match k with
  | 0 => ("ClassInference$Graph", "head", "[I", false)
  | 1 => ("ClassInference$Graph", "first", "[I", false)
  | 2 => ("ClassInference$Graph", "second", "[I", false)
  | 3 => ("ClassInference$Graph", "asked", "[I", false)
  | 4 => ("ClassInference$Graph", "kept", "[I", false)
  | 5 => ("ClassInference$Graph", "open", "[I", false)
  | 6 => ("ClassInference$Graph", "bound", "[I", false)
  | 7 => ("ClassInference$Graph", "count", "I", false)
  | 8 => ("ClassInference$Graph", "visitedIn", "[I", false)
  | 9 => ("ClassInference$Graph", "value", "[I", false)
  | 10 => ("ClassInference$Graph", "order", "[I", false)
  | 11 => ("ClassInference$Graph", "ordered", "I", false)
  | 12 => ("ClassInference$Graph", "visit", "I", false)
  | 13 => ("ClassInference$Graph", "stack", "[I", false)
  | 14 => ("ClassInference$Graph", "height", "I", false)
  | _ => ("ClassInference$Graph", "clash", "Z", false)
def u9t_G : Nat → FieldType := fun k => match k with
  | 0 => .array .int
  | 1 => .array .int
  | 2 => .array .int
  | 3 => .array .int
  | 4 => .array .int
  | 5 => .array .int
  | 6 => .array .int
  | 7 => .int
  | 8 => .array .int
  | 9 => .array .int
  | 10 => .array .int
  | 11 => .int
  | 12 => .int
  | 13 => .array .int
  | 14 => .int
  | _ => .boolean
set_option maxRecDepth 100000 in
theorem u9n_G : ∀ a, a < 16 → ∀ b, b < 16 → a ≠ b → (u9T_G a).2.1 ≠ (u9T_G b).2.1 := by decide +kernel
set_option maxRecDepth 100000 in
theorem u9k_G : ∀ k, k < 16 → parseFieldDescriptor (u9T_G k).2.2.1 = some (u9t_G k) := by decide +kernel
set_option maxRecDepth 100000 in
theorem u9i_G : ∀ w ∈ u_ws "ClassInference$Graph" u9T_G 16, w ∈ wAll := by decide +kernel
def u9T_D : u_T := fun k => match k with
  | 0 => ("ClassInference$Told", "head", "[I", false)
  | 1 => ("ClassInference$Told", "first", "[I", false)
  | 2 => ("ClassInference$Told", "second", "[I", false)
  | 3 => ("ClassInference$Told", "size", "[J", false)
  | 4 => ("ClassInference$Told", "count", "I", false)
  | 5 => ("ClassInference$Told", "classes", "[I", false)
  | 6 => ("ClassInference$Told", "variables", "I", false)
  | 7 => ("ClassInference$Told", "total", "I", false)
  | _ => ("ClassInference$Told", "handed", "I", false)
def u9t_D : Nat → FieldType := fun k => match k with
  | 0 => .array .int
  | 1 => .array .int
  | 2 => .array .int
  | 3 => .array .long
  | 4 => .int
  | 5 => .array .int
  | 6 => .int
  | 7 => .int
  | _ => .int
set_option maxRecDepth 100000 in
theorem u9n_D : ∀ a, a < 9 → ∀ b, b < 9 → a ≠ b → (u9T_D a).2.1 ≠ (u9T_D b).2.1 := by decide +kernel
set_option maxRecDepth 100000 in
theorem u9k_D : ∀ k, k < 9 → parseFieldDescriptor (u9T_D k).2.2.1 = some (u9t_D k) := by decide +kernel
set_option maxRecDepth 100000 in
theorem u9i_D : ∀ w ∈ u_ws "ClassInference$Told" u9T_D 9, w ∈ wAll := by decide +kernel
def u9T_M : u_T := fun k => match k with
  | 0 => ("ClassInferenceModel", "thrown", "I", false)
  | 1 => ("ClassInferenceModel", "constructors", "I", false)
  | 2 => ("ClassInferenceModel", "partCounts", "[I", true)
  | 3 => ("ClassInferenceModel", "typeCount", "I", false)
  | 4 => ("ClassInferenceModel", "heads", "[I", true)
  | 5 => ("ClassInferenceModel", "lefts", "[I", true)
  | 6 => ("ClassInferenceModel", "rights", "[I", true)
  | 7 => ("ClassInferenceModel", "typeSizes", "[I", true)
  | 8 => ("ClassInferenceModel", "classCount", "I", false)
  | 9 => ("ClassInferenceModel", "aboves", "[I", true)
  | 10 => ("ClassInferenceModel", "methods", "[I", true)
  | 11 => ("ClassInferenceModel", "instanceCount", "I", false)
  | 12 => ("ClassInferenceModel", "hasInstance", "[Z", true)
  | 13 => ("ClassInferenceModel", "firstWants", "[I", true)
  | 14 => ("ClassInferenceModel", "secondWants", "[I", true)
  | 15 => ("ClassInferenceModel", "expressionCount", "I", false)
  | 16 => ("ClassInferenceModel", "kinds", "[I", true)
  | 17 => ("ClassInferenceModel", "as", "[I", true)
  | 18 => ("ClassInferenceModel", "bs", "[I", true)
  | 19 => ("ClassInferenceModel", "cs", "[I", true)
  | 20 => ("ClassInferenceModel", "exprSizes", "[I", true)
  | 21 => ("ClassInferenceModel", "nodes", "I", false)
  | 22 => ("ClassInferenceModel", "exprOf", "[I", true)
  | 23 => ("ClassInferenceModel", "parents", "[I", true)
  | 24 => ("ClassInferenceModel", "sides", "[I", true)
  | 25 => ("ClassInferenceModel", "firstKids", "[I", true)
  | 26 => ("ClassInferenceModel", "secondKids", "[I", true)
  | 27 => ("ClassInferenceModel", "typeOf", "[I", true)
  | 28 => ("ClassInferenceModel", "nameTypes", "[I", true)
  | 29 => ("ClassInferenceModel", "ownFrom", "[I", true)
  | 30 => ("ClassInferenceModel", "ownCount", "[I", true)
  | 31 => ("ClassInferenceModel", "stages", "[I", true)
  | 32 => ("ClassInferenceModel", "pile", "[I", true)
  | 33 => ("ClassInferenceModel", "wantsBefore", "[I", true)
  | 34 => ("ClassInferenceModel", "owned", "I", false)
  | 35 => ("ClassInferenceModel", "ownVariables", "[I", true)
  | 36 => ("ClassInferenceModel", "ownBits", "[I", true)
  | 37 => ("ClassInferenceModel", "terms", "I", false)
  | 38 => ("ClassInferenceModel", "stands", "[I", true)
  | 39 => ("ClassInferenceModel", "termHeads", "[I", true)
  | 40 => ("ClassInferenceModel", "termLefts", "[I", true)
  | 41 => ("ClassInferenceModel", "termRights", "[I", true)
  | 42 => ("ClassInferenceModel", "marks", "[I", true)
  | 43 => ("ClassInferenceModel", "mark", "I", false)
  | 44 => ("ClassInferenceModel", "copies", "[I", true)
  | 45 => ("ClassInferenceModel", "told", "[Z", true)
  | 46 => ("ClassInferenceModel", "needs", "[I", true)
  | 47 => ("ClassInferenceModel", "doneNeeds", "[I", true)
  | 48 => ("ClassInferenceModel", "work", "[I", true)
  | 49 => ("ClassInferenceModel", "reached", "[I", true)
  | 50 => ("ClassInferenceModel", "reachedCount", "I", false)
  | 51 => ("ClassInferenceModel", "staticCopies", "[I", true)
  | 52 => ("ClassInferenceModel", "staticMarks", "[Z", true)
  | 53 => ("ClassInferenceModel", "wanted", "I", false)
  | 54 => ("ClassInferenceModel", "wantNodes", "[I", true)
  | 55 => ("ClassInferenceModel", "wantBits", "[I", true)
  | 56 => ("ClassInferenceModel", "fails", "Z", false)
  | 57 => ("ClassInferenceModel", "lacks", "Z", false)
  | 58 => ("ClassInferenceModel", "ambiguous", "Z", false)
  | 59 => ("ClassInferenceModel", "passCount", "I", false)
  | 60 => ("ClassInferenceModel", "lastSize", "I", false)
  | 61 => ("ClassInferenceModel", "lastRoot", "I", false)
  | 62 => ("ClassInferenceModel", "lastHeads", "[I", true)
  | 63 => ("ClassInferenceModel", "lastLefts", "[I", true)
  | 64 => ("ClassInferenceModel", "lastRights", "[I", true)
  | 65 => ("ClassInferenceModel", "lastSizes", "[I", true)
  | 66 => ("ClassInferenceModel", "lastWants", "I", false)
  | 67 => ("ClassInferenceModel", "lastWantClasses", "[I", true)
  | 68 => ("ClassInferenceModel", "lastWantVariables", "[I", true)
  | 69 => ("ClassInferenceModel", "lastPasses", "I", false)
  | 70 => ("ClassInferenceModel", "numbers", "[I", true)
  | 71 => ("ClassInferenceModel", "foundCount", "I", false)
  | 72 => ("ClassInferenceModel", "foundVariables", "[I", true)
  | _ => ("ClassInferenceModel", "foundBits", "[I", true)
def u9t_M : Nat → FieldType := fun k => match k with
  | 0 => .int
  | 1 => .int
  | 2 => .array .int
  | 3 => .int
  | 4 => .array .int
  | 5 => .array .int
  | 6 => .array .int
  | 7 => .array .int
  | 8 => .int
  | 9 => .array .int
  | 10 => .array .int
  | 11 => .int
  | 12 => .array .boolean
  | 13 => .array .int
  | 14 => .array .int
  | 15 => .int
  | 16 => .array .int
  | 17 => .array .int
  | 18 => .array .int
  | 19 => .array .int
  | 20 => .array .int
  | 21 => .int
  | 22 => .array .int
  | 23 => .array .int
  | 24 => .array .int
  | 25 => .array .int
  | 26 => .array .int
  | 27 => .array .int
  | 28 => .array .int
  | 29 => .array .int
  | 30 => .array .int
  | 31 => .array .int
  | 32 => .array .int
  | 33 => .array .int
  | 34 => .int
  | 35 => .array .int
  | 36 => .array .int
  | 37 => .int
  | 38 => .array .int
  | 39 => .array .int
  | 40 => .array .int
  | 41 => .array .int
  | 42 => .array .int
  | 43 => .int
  | 44 => .array .int
  | 45 => .array .boolean
  | 46 => .array .int
  | 47 => .array .int
  | 48 => .array .int
  | 49 => .array .int
  | 50 => .int
  | 51 => .array .int
  | 52 => .array .boolean
  | 53 => .int
  | 54 => .array .int
  | 55 => .array .int
  | 56 => .boolean
  | 57 => .boolean
  | 58 => .boolean
  | 59 => .int
  | 60 => .int
  | 61 => .int
  | 62 => .array .int
  | 63 => .array .int
  | 64 => .array .int
  | 65 => .array .int
  | 66 => .int
  | 67 => .array .int
  | 68 => .array .int
  | 69 => .int
  | 70 => .array .int
  | 71 => .int
  | 72 => .array .int
  | _ => .array .int
set_option maxRecDepth 100000 in
theorem u9n_M : ∀ a, a < 74 → ∀ b, b < 74 → a ≠ b → (u9T_M a).2.1 ≠ (u9T_M b).2.1 := by decide +kernel
set_option maxRecDepth 100000 in
theorem u9k_M : ∀ k, k < 74 → parseFieldDescriptor (u9T_M k).2.2.1 = some (u9t_M k) := by decide +kernel
set_option maxRecDepth 100000 in
theorem u9i_M : ∀ w ∈ u_ws "ClassInferenceModel" u9T_M 74, w ∈ wAll := by decide +kernel
