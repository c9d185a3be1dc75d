/-! NAMES (by program out of javap and the tables): classes, fields, methods, what the tables say, how each instruction decodes -/
def R_Gw : String := "GraphWalker"
def T_Gw : u_T := fun k => match k with
  | _ => ("GraphWalker", "walk", "LGraphWalker$Walk;", true)
def t_Gw : Nat → FieldType := fun k => match k with
  | _ => .object "GraphWalker$Walk"
theorem n_Gw : ∀ a, a < 1 → ∀ b, b < 1 → a ≠ b → (T_Gw a).2.1 ≠ (T_Gw b).2.1 := by decide +kernel
theorem t_Gw_ok : ∀ k, k < 1 → parseFieldDescriptor (T_Gw k).2.2.1 = some (t_Gw k) := by decide +kernel
theorem i_Gw : ∀ w ∈ u_ws R_Gw T_Gw 1, w ∈ gw_all := by
  have h : (u_ws R_Gw T_Gw 1).all (fun w => decide (w ∈ lw_tbl) && goodWord w) = true := by decide +kernel
  intro w hw
  have h2 := List.all_eq_true.mp h w hw
  rw [Bool.and_eq_true] at h2
  exact gw_T_all (List.mem_filter.mpr ⟨of_decide_eq_true h2.1, h2.2⟩)
def R_Wa : String := "GraphWalker$Walk"
def T_Wa : u_T := fun k => match k with
  | 0 => ("GraphWalker$Walk", "terms", "LGraphWalker$Terms;", true)
  | 1 => ("GraphWalker$Walk", "places", "LGraphWalker$Places;", true)
  | 2 => ("GraphWalker$Walk", "things", "LGraphWalker$Things;", true)
  | 3 => ("GraphWalker$Walk", "row", "LGraphWalker$Row;", true)
  | 4 => ("GraphWalker$Walk", "value", "LGraphWalker$Value;", true)
  | 5 => ("GraphWalker$Walk", "outcome", "I", false)
  | 6 => ("GraphWalker$Walk", "shares", "Z", false)
  | 7 => ("GraphWalker$Walk", "hand", "I", false)
  | 8 => ("GraphWalker$Walk", "handTerm", "I", false)
  | 9 => ("GraphWalker$Walk", "handPlaces", "I", false)
  | 10 => ("GraphWalker$Walk", "handThing", "I", false)
  | 11 => ("GraphWalker$Walk", "steps", "I", false)
  | 12 => ("GraphWalker$Walk", "needsOfDone", "I", false)
  | 13 => ("GraphWalker$Walk", "needsOfWaiting", "I", false)
  | 14 => ("GraphWalker$Walk", "ringNeeded", "I", false)
  | 15 => ("GraphWalker$Walk", "pace", "I", false)
  | _ => ("GraphWalker$Walk", "round", "I", false)
def t_Wa : Nat → FieldType := fun k => match k with
  | 0 => .object "GraphWalker$Terms"
  | 1 => .object "GraphWalker$Places"
  | 2 => .object "GraphWalker$Things"
  | 3 => .object "GraphWalker$Row"
  | 4 => .object "GraphWalker$Value"
  | 5 => .int
  | 6 => .boolean
  | 7 => .int
  | 8 => .int
  | 9 => .int
  | 10 => .int
  | 11 => .int
  | 12 => .int
  | 13 => .int
  | 14 => .int
  | 15 => .int
  | _ => .int
theorem n_Wa : ∀ a, a < 17 → ∀ b, b < 17 → a ≠ b → (T_Wa a).2.1 ≠ (T_Wa b).2.1 := by decide +kernel
theorem t_Wa_ok : ∀ k, k < 17 → parseFieldDescriptor (T_Wa k).2.2.1 = some (t_Wa k) := by decide +kernel
theorem i_Wa : ∀ w ∈ u_ws R_Wa T_Wa 17, w ∈ gw_all := by
  have h : (u_ws R_Wa T_Wa 17).all (fun w => decide (w ∈ lw_tbl) && goodWord w) = true := by decide +kernel
  intro w hw
  have h2 := List.all_eq_true.mp h w hw
  rw [Bool.and_eq_true] at h2
  exact gw_T_all (List.mem_filter.mpr ⟨of_decide_eq_true h2.1, h2.2⟩)
def R_Te : String := "GraphWalker$Terms"
def T_Te : u_T := fun k => match k with
  | 0 => ("GraphWalker$Terms", "sorts", "[I", true)
  | 1 => ("GraphWalker$Terms", "firsts", "[I", true)
  | 2 => ("GraphWalker$Terms", "seconds", "[I", true)
  | 3 => ("GraphWalker$Terms", "thirds", "[I", true)
  | 4 => ("GraphWalker$Terms", "numbers", "[J", true)
  | 5 => ("GraphWalker$Terms", "lacking", "[I", true)
  | _ => ("GraphWalker$Terms", "count", "I", false)
def t_Te : Nat → FieldType := fun k => match k with
  | 0 => .array .int
  | 1 => .array .int
  | 2 => .array .int
  | 3 => .array .int
  | 4 => .array .long
  | 5 => .array .int
  | _ => .int
theorem n_Te : ∀ a, a < 7 → ∀ b, b < 7 → a ≠ b → (T_Te a).2.1 ≠ (T_Te b).2.1 := by decide +kernel
theorem t_Te_ok : ∀ k, k < 7 → parseFieldDescriptor (T_Te k).2.2.1 = some (t_Te k) := by decide +kernel
theorem i_Te : ∀ w ∈ u_ws R_Te T_Te 7, w ∈ gw_all := by
  have h : (u_ws R_Te T_Te 7).all (fun w => decide (w ∈ lw_tbl) && goodWord w) = true := by decide +kernel
  intro w hw
  have h2 := List.all_eq_true.mp h w hw
  rw [Bool.and_eq_true] at h2
  exact gw_T_all (List.mem_filter.mpr ⟨of_decide_eq_true h2.1, h2.2⟩)
def R_Pl : String := "GraphWalker$Places"
def T_Pl : u_T := fun k => match k with
  | 0 => ("GraphWalker$Places", "held", "[I", true)
  | 1 => ("GraphWalker$Places", "outers", "[I", true)
  | 2 => ("GraphWalker$Places", "marks", "[I", true)
  | _ => ("GraphWalker$Places", "made", "I", false)
def t_Pl : Nat → FieldType := fun k => match k with
  | 0 => .array .int
  | 1 => .array .int
  | 2 => .array .int
  | _ => .int
theorem n_Pl : ∀ a, a < 4 → ∀ b, b < 4 → a ≠ b → (T_Pl a).2.1 ≠ (T_Pl b).2.1 := by decide +kernel
theorem t_Pl_ok : ∀ k, k < 4 → parseFieldDescriptor (T_Pl k).2.2.1 = some (t_Pl k) := by decide +kernel
theorem i_Pl : ∀ w ∈ u_ws R_Pl T_Pl 4, w ∈ gw_all := by
  have h : (u_ws R_Pl T_Pl 4).all (fun w => decide (w ∈ lw_tbl) && goodWord w) = true := by decide +kernel
  intro w hw
  have h2 := List.all_eq_true.mp h w hw
  rw [Bool.and_eq_true] at h2
  exact gw_T_all (List.mem_filter.mpr ⟨of_decide_eq_true h2.1, h2.2⟩)
def R_Th : String := "GraphWalker$Things"
def T_Th : u_T := fun k => match k with
  | 0 => ("GraphWalker$Things", "states", "[I", true)
  | 1 => ("GraphWalker$Things", "terms", "[I", true)
  | 2 => ("GraphWalker$Things", "places", "[I", true)
  | 3 => ("GraphWalker$Things", "times", "[I", true)
  | 4 => ("GraphWalker$Things", "needers", "[I", true)
  | 5 => ("GraphWalker$Things", "valueSorts", "[I", true)
  | 6 => ("GraphWalker$Things", "valueNumbers", "[J", true)
  | 7 => ("GraphWalker$Things", "valueFirsts", "[I", true)
  | 8 => ("GraphWalker$Things", "valueSeconds", "[I", true)
  | 9 => ("GraphWalker$Things", "marks", "[I", true)
  | 10 => ("GraphWalker$Things", "there", "[I", true)
  | 11 => ("GraphWalker$Things", "reached", "[I", true)
  | 12 => ("GraphWalker$Things", "made", "I", false)
  | 13 => ("GraphWalker$Things", "thereCount", "I", false)
  | _ => ("GraphWalker$Things", "reachedCount", "I", false)
def t_Th : Nat → FieldType := fun k => match k with
  | 0 => .array .int
  | 1 => .array .int
  | 2 => .array .int
  | 3 => .array .int
  | 4 => .array .int
  | 5 => .array .int
  | 6 => .array .long
  | 7 => .array .int
  | 8 => .array .int
  | 9 => .array .int
  | 10 => .array .int
  | 11 => .array .int
  | 12 => .int
  | 13 => .int
  | _ => .int
theorem n_Th : ∀ a, a < 15 → ∀ b, b < 15 → a ≠ b → (T_Th a).2.1 ≠ (T_Th b).2.1 := by decide +kernel
theorem t_Th_ok : ∀ k, k < 15 → parseFieldDescriptor (T_Th k).2.2.1 = some (t_Th k) := by decide +kernel
theorem i_Th : ∀ w ∈ u_ws R_Th T_Th 15, w ∈ gw_all := by
  have h : (u_ws R_Th T_Th 15).all (fun w => decide (w ∈ lw_tbl) && goodWord w) = true := by decide +kernel
  intro w hw
  have h2 := List.all_eq_true.mp h w hw
  rw [Bool.and_eq_true] at h2
  exact gw_T_all (List.mem_filter.mpr ⟨of_decide_eq_true h2.1, h2.2⟩)
def R_Ro : String := "GraphWalker$Row"
def T_Ro : u_T := fun k => match k with
  | 0 => ("GraphWalker$Row", "kinds", "[I", true)
  | 1 => ("GraphWalker$Row", "firsts", "[I", true)
  | 2 => ("GraphWalker$Row", "seconds", "[I", true)
  | 3 => ("GraphWalker$Row", "numbers", "[J", true)
  | 4 => ("GraphWalker$Row", "length", "I", false)
  | _ => ("GraphWalker$Row", "greatest", "I", false)
def t_Ro : Nat → FieldType := fun k => match k with
  | 0 => .array .int
  | 1 => .array .int
  | 2 => .array .int
  | 3 => .array .long
  | 4 => .int
  | _ => .int
theorem n_Ro : ∀ a, a < 6 → ∀ b, b < 6 → a ≠ b → (T_Ro a).2.1 ≠ (T_Ro b).2.1 := by decide +kernel
theorem t_Ro_ok : ∀ k, k < 6 → parseFieldDescriptor (T_Ro k).2.2.1 = some (t_Ro k) := by decide +kernel
theorem i_Ro : ∀ w ∈ u_ws R_Ro T_Ro 6, w ∈ gw_all := by
  have h : (u_ws R_Ro T_Ro 6).all (fun w => decide (w ∈ lw_tbl) && goodWord w) = true := by decide +kernel
  intro w hw
  have h2 := List.all_eq_true.mp h w hw
  rw [Bool.and_eq_true] at h2
  exact gw_T_all (List.mem_filter.mpr ⟨of_decide_eq_true h2.1, h2.2⟩)
def R_Va : String := "GraphWalker$Value"
def T_Va : u_T := fun k => match k with
  | 0 => ("GraphWalker$Value", "sort", "I", false)
  | 1 => ("GraphWalker$Value", "number", "J", false)
  | 2 => ("GraphWalker$Value", "first", "I", false)
  | _ => ("GraphWalker$Value", "second", "I", false)
def t_Va : Nat → FieldType := fun k => match k with
  | 0 => .int
  | 1 => .long
  | 2 => .int
  | _ => .int
theorem n_Va : ∀ a, a < 4 → ∀ b, b < 4 → a ≠ b → (T_Va a).2.1 ≠ (T_Va b).2.1 := by decide +kernel
theorem t_Va_ok : ∀ k, k < 4 → parseFieldDescriptor (T_Va k).2.2.1 = some (t_Va k) := by decide +kernel
theorem i_Va : ∀ w ∈ u_ws R_Va T_Va 4, w ∈ gw_all := by
  have h : (u_ws R_Va T_Va 4).all (fun w => decide (w ∈ lw_tbl) && goodWord w) = true := by decide +kernel
  intro w hw
  have h2 := List.all_eq_true.mp h w hw
  rw [Bool.and_eq_true] at h2
  exact gw_T_all (List.mem_filter.mpr ⟨of_decide_eq_true h2.1, h2.2⟩)
def R_Mo : String := "GraphWalkerModel"
def T_Mo : u_T := fun k => match k with
  | 0 => ("GraphWalkerModel", "terms", "I", false)
  | 1 => ("GraphWalkerModel", "kinds", "[I", true)
  | 2 => ("GraphWalkerModel", "as", "[I", true)
  | 3 => ("GraphWalkerModel", "bs", "[I", true)
  | 4 => ("GraphWalkerModel", "cs", "[I", true)
  | 5 => ("GraphWalkerModel", "numbers", "[J", true)
  | 6 => ("GraphWalkerModel", "lacking", "[I", true)
  | 7 => ("GraphWalkerModel", "things", "I", false)
  | 8 => ("GraphWalkerModel", "there", "I", false)
  | 9 => ("GraphWalkerModel", "states", "[I", true)
  | 10 => ("GraphWalkerModel", "thingTerms", "[I", true)
  | 11 => ("GraphWalkerModel", "thingPlaces", "[I", true)
  | 12 => ("GraphWalkerModel", "valueSorts", "[I", true)
  | 13 => ("GraphWalkerModel", "valueNumbers", "[J", true)
  | 14 => ("GraphWalkerModel", "valueLefts", "[I", true)
  | 15 => ("GraphWalkerModel", "valueRights", "[I", true)
  | 16 => ("GraphWalkerModel", "works", "[I", true)
  | 17 => ("GraphWalkerModel", "neededBy", "[I", true)
  | 18 => ("GraphWalkerModel", "wasNeeded", "[Z", true)
  | 19 => ("GraphWalkerModel", "places", "I", false)
  | 20 => ("GraphWalkerModel", "placeThings", "[I", true)
  | 21 => ("GraphWalkerModel", "placeNexts", "[I", true)
  | 22 => ("GraphWalkerModel", "length", "I", false)
  | 23 => ("GraphWalkerModel", "longest", "I", false)
  | 24 => ("GraphWalkerModel", "entries", "[I", true)
  | 25 => ("GraphWalkerModel", "entryThings", "[I", true)
  | 26 => ("GraphWalkerModel", "entryPlaces", "[I", true)
  | 27 => ("GraphWalkerModel", "entryNumbers", "[J", true)
  | 28 => ("GraphWalkerModel", "hand", "I", false)
  | 29 => ("GraphWalkerModel", "handTerm", "I", false)
  | 30 => ("GraphWalkerModel", "handPlaces", "I", false)
  | 31 => ("GraphWalkerModel", "handThing", "I", false)
  | 32 => ("GraphWalkerModel", "sort", "I", false)
  | 33 => ("GraphWalkerModel", "number", "J", false)
  | 34 => ("GraphWalkerModel", "left", "I", false)
  | 35 => ("GraphWalkerModel", "right", "I", false)
  | 36 => ("GraphWalkerModel", "outcome", "I", false)
  | 37 => ("GraphWalkerModel", "shares", "Z", false)
  | 38 => ("GraphWalkerModel", "steps", "I", false)
  | 39 => ("GraphWalkerModel", "needsDone", "I", false)
  | 40 => ("GraphWalkerModel", "needsWaiting", "I", false)
  | 41 => ("GraphWalkerModel", "ringThing", "I", false)
  | 42 => ("GraphWalkerModel", "often", "I", false)
  | 43 => ("GraphWalkerModel", "code", "I", false)
  | 44 => ("GraphWalkerModel", "reached", "[Z", true)
  | 45 => ("GraphWalkerModel", "walked", "[Z", true)
  | 46 => ("GraphWalkerModel", "line", "[I", true)
  | _ => ("GraphWalkerModel", "lined", "I", false)
def t_Mo : Nat → FieldType := fun k => match k with
  | 0 => .int
  | 1 => .array .int
  | 2 => .array .int
  | 3 => .array .int
  | 4 => .array .int
  | 5 => .array .long
  | 6 => .array .int
  | 7 => .int
  | 8 => .int
  | 9 => .array .int
  | 10 => .array .int
  | 11 => .array .int
  | 12 => .array .int
  | 13 => .array .long
  | 14 => .array .int
  | 15 => .array .int
  | 16 => .array .int
  | 17 => .array .int
  | 18 => .array .boolean
  | 19 => .int
  | 20 => .array .int
  | 21 => .array .int
  | 22 => .int
  | 23 => .int
  | 24 => .array .int
  | 25 => .array .int
  | 26 => .array .int
  | 27 => .array .long
  | 28 => .int
  | 29 => .int
  | 30 => .int
  | 31 => .int
  | 32 => .int
  | 33 => .long
  | 34 => .int
  | 35 => .int
  | 36 => .int
  | 37 => .boolean
  | 38 => .int
  | 39 => .int
  | 40 => .int
  | 41 => .int
  | 42 => .int
  | 43 => .int
  | 44 => .array .boolean
  | 45 => .array .boolean
  | 46 => .array .int
  | _ => .int
theorem n_Mo : ∀ a, a < 48 → ∀ b, b < 48 → a ≠ b → (T_Mo a).2.1 ≠ (T_Mo b).2.1 := by decide +kernel
theorem t_Mo_ok : ∀ k, k < 48 → parseFieldDescriptor (T_Mo k).2.2.1 = some (t_Mo k) := by decide +kernel
theorem i_Mo : ∀ w ∈ u_ws R_Mo T_Mo 48, w ∈ gw_all := by
  have h : (u_ws R_Mo T_Mo 48).all (fun w => decide (w ∈ lw_tbl) && goodWord w) = true := by decide +kernel
  intro w hw
  have h2 := List.all_eq_true.mp h w hw
  rw [Bool.and_eq_true] at h2
  exact gw_T_all (List.mem_filter.mpr ⟨of_decide_eq_true h2.1, h2.2⟩)
def R_La : String := "GraphWalkerLaw"
abbrev gw_cl : List vw_C := [(R_Gw, T_Gw, 1), (R_Wa, T_Wa, 17), (R_Te, T_Te, 7), (R_Pl, T_Pl, 4), (R_Th, T_Th, 15), (R_Ro, T_Ro, 6), (R_Va, T_Va, 4), (R_Mo, T_Mo, 48)]
abbrev gw_ty (cI cL cZ : ClassId) : List (ClassId × FieldType) := [(cI, .int), (cL, .long), (cZ, .boolean)]
abbrev b_Gw_init : ByteArray := prog_1_method_1_code
def y_Gw_init : MethodName := ⟨R_Gw, "<init>", "()V"⟩
abbrev w_Gw_init : List Cond := Cond.code y_Gw_init b_Gw_init 1 none :: gw_T
abbrev b_Gw_number : ByteArray := prog_1_method_2_code
def y_Gw_number : MethodName := ⟨R_Gw, "number", "(J)I"⟩
abbrev w_Gw_number : List Cond := Cond.code y_Gw_number b_Gw_number 3 (some .int) :: gw_T
abbrev b_Gw_variable : ByteArray := prog_1_method_3_code
def y_Gw_variable : MethodName := ⟨R_Gw, "variable", "(I)I"⟩
abbrev w_Gw_variable : List Cond := Cond.code y_Gw_variable b_Gw_variable 2 (some .int) :: gw_T
abbrev b_Gw_one : ByteArray := prog_1_method_4_code
def y_Gw_one : MethodName := ⟨R_Gw, "one", "(II)I"⟩
abbrev w_Gw_one : List Cond := Cond.code y_Gw_one b_Gw_one 3 (some .int) :: gw_T
abbrev b_Gw_two : ByteArray := prog_1_method_5_code
def y_Gw_two : MethodName := ⟨R_Gw, "two", "(III)I"⟩
abbrev w_Gw_two : List Cond := Cond.code y_Gw_two b_Gw_two 4 (some .int) :: gw_T
abbrev b_Gw_choose : ByteArray := prog_1_method_6_code
def y_Gw_choose : MethodName := ⟨R_Gw, "choose", "(III)I"⟩
abbrev w_Gw_choose : List Cond := Cond.code y_Gw_choose b_Gw_choose 4 (some .int) :: gw_T
abbrev b_Gw_lacks : ByteArray := prog_1_method_7_code
def y_Gw_lacks : MethodName := ⟨R_Gw, "lacks", "(I)I"⟩
abbrev w_Gw_lacks : List Cond := Cond.code y_Gw_lacks b_Gw_lacks 2 (some .int) :: gw_T
abbrev b_Gw_begin : ByteArray := prog_1_method_8_code
def y_Gw_begin : MethodName := ⟨R_Gw, "begin", "(IZ)V"⟩
abbrev w_Gw_begin : List Cond := Cond.code y_Gw_begin b_Gw_begin 3 none :: gw_T
abbrev b_Gw_run : ByteArray := prog_1_method_9_code
def y_Gw_run : MethodName := ⟨R_Gw, "run", "(I)I"⟩
abbrev w_Gw_run : List Cond := Cond.code y_Gw_run b_Gw_run 3 (some .int) :: gw_T
abbrev b_Gw_into : ByteArray := prog_1_method_10_code
def y_Gw_into : MethodName := ⟨R_Gw, "into", "(I)V"⟩
abbrev w_Gw_into : List Cond := Cond.code y_Gw_into b_Gw_into 2 none :: gw_T
abbrev b_Gw_outcome : ByteArray := prog_1_method_11_code
def y_Gw_outcome : MethodName := ⟨R_Gw, "outcome", "()I"⟩
abbrev w_Gw_outcome : List Cond := Cond.code y_Gw_outcome b_Gw_outcome 1 (some .int) :: gw_T
abbrev b_Gw_sort : ByteArray := prog_1_method_12_code
def y_Gw_sort : MethodName := ⟨R_Gw, "sort", "()I"⟩
abbrev w_Gw_sort : List Cond := Cond.code y_Gw_sort b_Gw_sort 1 (some .int) :: gw_T
abbrev b_Gw_value : ByteArray := prog_1_method_13_code
def y_Gw_value : MethodName := ⟨R_Gw, "value", "()J"⟩
abbrev w_Gw_value : List Cond := Cond.code y_Gw_value b_Gw_value 1 (some .long) :: gw_T
abbrev b_Gw_told : ByteArray := prog_1_method_14_code
def y_Gw_told : MethodName := ⟨R_Gw, "told", "(I)I"⟩
abbrev w_Gw_told : List Cond := Cond.code y_Gw_told b_Gw_told 2 (some .int) :: gw_T
abbrev b_Gw_thing : ByteArray := prog_1_method_15_code
def y_Gw_thing : MethodName := ⟨R_Gw, "thing", "(I)I"⟩
abbrev w_Gw_thing : List Cond := Cond.code y_Gw_thing b_Gw_thing 2 (some .int) :: gw_T
abbrev b_Gw_worked : ByteArray := prog_1_method_16_code
def y_Gw_worked : MethodName := ⟨R_Gw, "worked", "(II)I"⟩
abbrev w_Gw_worked : List Cond := Cond.code y_Gw_worked b_Gw_worked 3 (some .int) :: gw_T
abbrev b_Gw_ring : ByteArray := prog_1_method_17_code
def y_Gw_ring : MethodName := ⟨R_Gw, "ring", "(I)I"⟩
abbrev w_Gw_ring : List Cond := Cond.code y_Gw_ring b_Gw_ring 3 (some .int) :: gw_T
abbrev b_Gw_entry : ByteArray := prog_1_method_18_code
def y_Gw_entry : MethodName := ⟨R_Gw, "entry", "(I)I"⟩
abbrev w_Gw_entry : List Cond := Cond.code y_Gw_entry b_Gw_entry 2 (some .int) :: gw_T
abbrev b_Gw_collect : ByteArray := prog_1_method_19_code
def y_Gw_collect : MethodName := ⟨R_Gw, "collect", "()I"⟩
abbrev w_Gw_collect : List Cond := Cond.code y_Gw_collect b_Gw_collect 1 (some .int) :: gw_T
abbrev b_Gw_every : ByteArray := prog_1_method_20_code
def y_Gw_every : MethodName := ⟨R_Gw, "every", "(I)I"⟩
abbrev w_Gw_every : List Cond := Cond.code y_Gw_every b_Gw_every 3 (some .int) :: gw_T
abbrev b_Gw_refuseMissingTerm : ByteArray := prog_1_method_21_code
def y_Gw_refuseMissingTerm : MethodName := ⟨R_Gw, "refuseMissingTerm", "(I)V"⟩
abbrev w_Gw_refuseMissingTerm : List Cond := Cond.code y_Gw_refuseMissingTerm b_Gw_refuseMissingTerm 2 none :: gw_T
abbrev b_Gw_refuseTermBeyondMost : ByteArray := prog_1_method_22_code
def y_Gw_refuseTermBeyondMost : MethodName := ⟨R_Gw, "refuseTermBeyondMost", "()V"⟩
abbrev w_Gw_refuseTermBeyondMost : List Cond := Cond.code y_Gw_refuseTermBeyondMost b_Gw_refuseTermBeyondMost 1 none :: gw_T
abbrev b_Gw_refuseMissingRun : ByteArray := prog_1_method_23_code
def y_Gw_refuseMissingRun : MethodName := ⟨R_Gw, "refuseMissingRun", "()V"⟩
abbrev w_Gw_refuseMissingRun : List Cond := Cond.code y_Gw_refuseMissingRun b_Gw_refuseMissingRun 1 none :: gw_T
abbrev b_Gw_refuseMissingThing : ByteArray := prog_1_method_24_code
def y_Gw_refuseMissingThing : MethodName := ⟨R_Gw, "refuseMissingThing", "(I)V"⟩
abbrev w_Gw_refuseMissingThing : List Cond := Cond.code y_Gw_refuseMissingThing b_Gw_refuseMissingThing 2 none :: gw_T
abbrev b_Mo_init : ByteArray := prog_9_method_1_code
def y_Mo_init : MethodName := ⟨R_Mo, "<init>", "()V"⟩
abbrev w_Mo_init : List Cond := Cond.code y_Mo_init b_Mo_init 1 none :: gw_T
abbrev b_Mo_thrown : ByteArray := prog_9_method_2_code
def y_Mo_thrown : MethodName := ⟨R_Mo, "thrown", "()I"⟩
abbrev w_Mo_thrown : List Cond := Cond.code y_Mo_thrown b_Mo_thrown 1 (some .int) :: gw_T
abbrev b_Mo_isTerm : ByteArray := prog_9_method_3_code
def y_Mo_isTerm : MethodName := ⟨R_Mo, "isTerm", "(I)Z"⟩
abbrev w_Mo_isTerm : List Cond := Cond.code y_Mo_isTerm b_Mo_isTerm 2 (some .boolean) :: gw_T
abbrev b_Mo_thrownBy : ByteArray := prog_9_method_4_code
def y_Mo_thrownBy : MethodName := ⟨R_Mo, "thrownBy", "(I)I"⟩
abbrev w_Mo_thrownBy : List Cond := Cond.code y_Mo_thrownBy b_Mo_thrownBy 2 (some .int) :: gw_T
abbrev b_Mo_term : ByteArray := prog_9_method_5_code
def y_Mo_term : MethodName := ⟨R_Mo, "term", "(IIII)I"⟩
abbrev w_Mo_term : List Cond := Cond.code y_Mo_term b_Mo_term 5 (some .int) :: gw_T
abbrev b_Mo_more : ByteArray := prog_9_method_6_code
def y_Mo_more : MethodName := ⟨R_Mo, "more", "(II)I"⟩
abbrev w_Mo_more : List Cond := Cond.code y_Mo_more b_Mo_more 2 (some .int) :: gw_T
abbrev b_Mo_lessOne : ByteArray := prog_9_method_7_code
def y_Mo_lessOne : MethodName := ⟨R_Mo, "lessOne", "(I)I"⟩
abbrev w_Mo_lessOne : List Cond := Cond.code y_Mo_lessOne b_Mo_lessOne 1 (some .int) :: gw_T
abbrev b_Mo_number : ByteArray := prog_9_method_8_code
def y_Mo_number : MethodName := ⟨R_Mo, "number", "(J)I"⟩
abbrev w_Mo_number : List Cond := Cond.code y_Mo_number b_Mo_number 4 (some .int) :: gw_T
abbrev b_Mo_variable : ByteArray := prog_9_method_9_code
def y_Mo_variable : MethodName := ⟨R_Mo, "variable", "(I)I"⟩
abbrev w_Mo_variable : List Cond := Cond.code y_Mo_variable b_Mo_variable 3 (some .int) :: gw_T
abbrev b_Mo_one : ByteArray := prog_9_method_10_code
def y_Mo_one : MethodName := ⟨R_Mo, "one", "(II)I"⟩
abbrev w_Mo_one : List Cond := Cond.code y_Mo_one b_Mo_one 4 (some .int) :: gw_T
abbrev b_Mo_two : ByteArray := prog_9_method_11_code
def y_Mo_two : MethodName := ⟨R_Mo, "two", "(III)I"⟩
abbrev w_Mo_two : List Cond := Cond.code y_Mo_two b_Mo_two 6 (some .int) :: gw_T
abbrev b_Mo_choose : ByteArray := prog_9_method_12_code
def y_Mo_choose : MethodName := ⟨R_Mo, "choose", "(III)I"⟩
abbrev w_Mo_choose : List Cond := Cond.code y_Mo_choose b_Mo_choose 5 (some .int) :: gw_T
abbrev b_Mo_lacks : ByteArray := prog_9_method_13_code
def y_Mo_lacks : MethodName := ⟨R_Mo, "lacks", "(I)I"⟩
abbrev w_Mo_lacks : List Cond := Cond.code y_Mo_lacks b_Mo_lacks 2 (some .int) :: gw_T
abbrev b_Mo_begin : ByteArray := prog_9_method_14_code
def y_Mo_begin : MethodName := ⟨R_Mo, "begin", "(IZ)V"⟩
abbrev w_Mo_begin : List Cond := Cond.code y_Mo_begin b_Mo_begin 3 none :: gw_T
abbrev b_Mo_atHand : ByteArray := prog_9_method_15_code
def y_Mo_atHand : MethodName := ⟨R_Mo, "atHand", "(II)V"⟩
abbrev w_Mo_atHand : List Cond := Cond.code y_Mo_atHand b_Mo_atHand 3 none :: gw_T
abbrev b_Mo_valueAtHand : ByteArray := prog_9_method_16_code
def y_Mo_valueAtHand : MethodName := ⟨R_Mo, "valueAtHand", "(IJII)V"⟩
abbrev w_Mo_valueAtHand : List Cond := Cond.code y_Mo_valueAtHand b_Mo_valueAtHand 6 none :: gw_T
abbrev b_Mo_run : ByteArray := prog_9_method_17_code
def y_Mo_run : MethodName := ⟨R_Mo, "run", "(I)I"⟩
abbrev w_Mo_run : List Cond := Cond.code y_Mo_run b_Mo_run 4 (some .int) :: gw_T
abbrev b_Mo_step : ByteArray := prog_9_method_18_code
def y_Mo_step : MethodName := ⟨R_Mo, "step", "()V"⟩
abbrev w_Mo_step : List Cond := Cond.code y_Mo_step b_Mo_step 1 none :: gw_T
abbrev b_Mo_need : ByteArray := prog_9_method_19_code
def y_Mo_need : MethodName := ⟨R_Mo, "need", "(IZ)V"⟩
abbrev w_Mo_need : List Cond := Cond.code y_Mo_need b_Mo_need 4 none :: gw_T
abbrev b_Mo_latestInWork : ByteArray := prog_9_method_20_code
def y_Mo_latestInWork : MethodName := ⟨R_Mo, "latestInWork", "()I"⟩
abbrev w_Mo_latestInWork : List Cond := Cond.code y_Mo_latestInWork b_Mo_latestInWork 2 (some .int) :: gw_T
abbrev b_Mo_push : ByteArray := prog_9_method_21_code
def y_Mo_push : MethodName := ⟨R_Mo, "push", "(IIIJ)V"⟩
abbrev w_Mo_push : List Cond := Cond.code y_Mo_push b_Mo_push 6 none :: gw_T
abbrev b_Mo_thingOfPlace : ByteArray := prog_9_method_22_code
def y_Mo_thingOfPlace : MethodName := ⟨R_Mo, "thingOfPlace", "(II)I"⟩
abbrev w_Mo_thingOfPlace : List Cond := Cond.code y_Mo_thingOfPlace b_Mo_thingOfPlace 5 (some .int) :: gw_T
abbrev b_Mo_isNew : ByteArray := prog_9_method_23_code
def y_Mo_isNew : MethodName := ⟨R_Mo, "isNew", "(I)Z"⟩
abbrev w_Mo_isNew : List Cond := Cond.code y_Mo_isNew b_Mo_isNew 2 (some .boolean) :: gw_T
abbrev b_Mo_thingOf : ByteArray := prog_9_method_24_code
def y_Mo_thingOf : MethodName := ⟨R_Mo, "thingOf", "(I)I"⟩
abbrev w_Mo_thingOf : List Cond := Cond.code y_Mo_thingOf b_Mo_thingOf 2 (some .int) :: gw_T
abbrev b_Mo_newThing : ByteArray := prog_9_method_25_code
def y_Mo_newThing : MethodName := ⟨R_Mo, "newThing", "(II)I"⟩
abbrev w_Mo_newThing : List Cond := Cond.code y_Mo_newThing b_Mo_newThing 3 (some .int) :: gw_T
abbrev b_Mo_newPlace : ByteArray := prog_9_method_26_code
def y_Mo_newPlace : MethodName := ⟨R_Mo, "newPlace", "(II)I"⟩
abbrev w_Mo_newPlace : List Cond := Cond.code y_Mo_newPlace b_Mo_newPlace 3 (some .int) :: gw_T
abbrev b_Mo_hasRoom : ByteArray := prog_9_method_27_code
def y_Mo_hasRoom : MethodName := ⟨R_Mo, "hasRoom", "(III)Z"⟩
abbrev w_Mo_hasRoom : List Cond := Cond.code y_Mo_hasRoom b_Mo_hasRoom 5 (some .boolean) :: gw_T
abbrev b_Mo_goOnWithTerm : ByteArray := prog_9_method_28_code
def y_Mo_goOnWithTerm : MethodName := ⟨R_Mo, "goOnWithTerm", "()V"⟩
abbrev w_Mo_goOnWithTerm : List Cond := Cond.code y_Mo_goOnWithTerm b_Mo_goOnWithTerm 5 none :: gw_T
abbrev b_Mo_goOnWithValue : ByteArray := prog_9_method_29_code
def y_Mo_goOnWithValue : MethodName := ⟨R_Mo, "goOnWithValue", "()V"⟩
abbrev w_Mo_goOnWithValue : List Cond := Cond.code y_Mo_goOnWithValue b_Mo_goOnWithValue 4 none :: gw_T
abbrev b_Mo_act : ByteArray := prog_9_method_30_code
def y_Mo_act : MethodName := ⟨R_Mo, "act", "(IJJ)V"⟩
abbrev w_Mo_act : List Cond := Cond.code y_Mo_act b_Mo_act 8 none :: gw_T
abbrev b_Mo_into : ByteArray := prog_9_method_31_code
def y_Mo_into : MethodName := ⟨R_Mo, "into", "(I)V"⟩
abbrev w_Mo_into : List Cond := Cond.code y_Mo_into b_Mo_into 2 none :: gw_T
abbrev b_Mo_outcome : ByteArray := prog_9_method_32_code
def y_Mo_outcome : MethodName := ⟨R_Mo, "outcome", "()I"⟩
abbrev w_Mo_outcome : List Cond := Cond.code y_Mo_outcome b_Mo_outcome 1 (some .int) :: gw_T
abbrev b_Mo_sort : ByteArray := prog_9_method_33_code
def y_Mo_sort : MethodName := ⟨R_Mo, "sort", "()I"⟩
abbrev w_Mo_sort : List Cond := Cond.code y_Mo_sort b_Mo_sort 1 (some .int) :: gw_T
abbrev b_Mo_value : ByteArray := prog_9_method_34_code
def y_Mo_value : MethodName := ⟨R_Mo, "value", "()J"⟩
abbrev w_Mo_value : List Cond := Cond.code y_Mo_value b_Mo_value 1 (some .long) :: gw_T
abbrev b_Mo_told : ByteArray := prog_9_method_35_code
def y_Mo_told : MethodName := ⟨R_Mo, "told", "(I)I"⟩
abbrev w_Mo_told : List Cond := Cond.code y_Mo_told b_Mo_told 2 (some .int) :: gw_T
abbrev b_Mo_isThing : ByteArray := prog_9_method_36_code
def y_Mo_isThing : MethodName := ⟨R_Mo, "isThing", "(I)Z"⟩
abbrev w_Mo_isThing : List Cond := Cond.code y_Mo_isThing b_Mo_isThing 2 (some .boolean) :: gw_T
abbrev b_Mo_thing : ByteArray := prog_9_method_37_code
def y_Mo_thing : MethodName := ⟨R_Mo, "thing", "(I)I"⟩
abbrev w_Mo_thing : List Cond := Cond.code y_Mo_thing b_Mo_thing 2 (some .int) :: gw_T
abbrev b_Mo_worked : ByteArray := prog_9_method_38_code
def y_Mo_worked : MethodName := ⟨R_Mo, "worked", "(II)I"⟩
abbrev w_Mo_worked : List Cond := Cond.code y_Mo_worked b_Mo_worked 3 (some .int) :: gw_T
abbrev b_Mo_ring : ByteArray := prog_9_method_39_code
def y_Mo_ring : MethodName := ⟨R_Mo, "ring", "(I)I"⟩
abbrev w_Mo_ring : List Cond := Cond.code y_Mo_ring b_Mo_ring 5 (some .int) :: gw_T
abbrev b_Mo_entry : ByteArray := prog_9_method_40_code
def y_Mo_entry : MethodName := ⟨R_Mo, "entry", "(I)I"⟩
abbrev w_Mo_entry : List Cond := Cond.code y_Mo_entry b_Mo_entry 2 (some .int) :: gw_T
abbrev b_Mo_reach : ByteArray := prog_9_method_41_code
def y_Mo_reach : MethodName := ⟨R_Mo, "reach", "(I)V"⟩
abbrev w_Mo_reach : List Cond := Cond.code y_Mo_reach b_Mo_reach 2 none :: gw_T
abbrev b_Mo_reachPlaces : ByteArray := prog_9_method_42_code
def y_Mo_reachPlaces : MethodName := ⟨R_Mo, "reachPlaces", "(I)V"⟩
abbrev w_Mo_reachPlaces : List Cond := Cond.code y_Mo_reachPlaces b_Mo_reachPlaces 3 none :: gw_T
abbrev b_Mo_reachValue : ByteArray := prog_9_method_43_code
def y_Mo_reachValue : MethodName := ⟨R_Mo, "reachValue", "(III)V"⟩
abbrev w_Mo_reachValue : List Cond := Cond.code y_Mo_reachValue b_Mo_reachValue 4 none :: gw_T
abbrev b_Mo_reachHand : ByteArray := prog_9_method_44_code
def y_Mo_reachHand : MethodName := ⟨R_Mo, "reachHand", "()V"⟩
abbrev w_Mo_reachHand : List Cond := Cond.code y_Mo_reachHand b_Mo_reachHand 2 none :: gw_T
abbrev b_Mo_sweep : ByteArray := prog_9_method_45_code
def y_Mo_sweep : MethodName := ⟨R_Mo, "sweep", "()I"⟩
abbrev w_Mo_sweep : List Cond := Cond.code y_Mo_sweep b_Mo_sweep 3 (some .int) :: gw_T
abbrev b_Mo_collect : ByteArray := prog_9_method_46_code
def y_Mo_collect : MethodName := ⟨R_Mo, "collect", "()I"⟩
abbrev w_Mo_collect : List Cond := Cond.code y_Mo_collect b_Mo_collect 1 (some .int) :: gw_T
abbrev b_Mo_every : ByteArray := prog_9_method_47_code
def y_Mo_every : MethodName := ⟨R_Mo, "every", "(I)I"⟩
abbrev w_Mo_every : List Cond := Cond.code y_Mo_every b_Mo_every 3 (some .int) :: gw_T
abbrev b_Pl_init : ByteArray := prog_2_method_1_code
def y_Pl_init : MethodName := ⟨R_Pl, "<init>", "()V"⟩
abbrev w_Pl_init : List Cond := Cond.code y_Pl_init b_Pl_init 1 none :: gw_T
abbrev b_Pl_clear : ByteArray := prog_2_method_2_code
def y_Pl_clear : MethodName := ⟨R_Pl, "clear", "()V"⟩
abbrev w_Pl_clear : List Cond := Cond.code y_Pl_clear b_Pl_clear 1 none :: gw_T
abbrev b_Pl_has : ByteArray := prog_2_method_3_code
def y_Pl_has : MethodName := ⟨R_Pl, "has", "(I)Z"⟩
abbrev w_Pl_has : List Cond := Cond.code y_Pl_has b_Pl_has 2 (some .boolean) :: gw_T
abbrev b_Pl_isFull : ByteArray := prog_2_method_4_code
def y_Pl_isFull : MethodName := ⟨R_Pl, "isFull", "()Z"⟩
abbrev w_Pl_isFull : List Cond := Cond.code y_Pl_isFull b_Pl_isFull 1 (some .boolean) :: gw_T
abbrev b_Pl_add : ByteArray := prog_2_method_5_code
def y_Pl_add : MethodName := ⟨R_Pl, "add", "(II)I"⟩
abbrev w_Pl_add : List Cond := Cond.code y_Pl_add b_Pl_add 4 (some .int) :: gw_T
abbrev b_Pl_heldBy : ByteArray := prog_2_method_6_code
def y_Pl_heldBy : MethodName := ⟨R_Pl, "heldBy", "(I)I"⟩
abbrev w_Pl_heldBy : List Cond := Cond.code y_Pl_heldBy b_Pl_heldBy 2 (some .int) :: gw_T
abbrev b_Pl_outerOf : ByteArray := prog_2_method_7_code
def y_Pl_outerOf : MethodName := ⟨R_Pl, "outerOf", "(I)I"⟩
abbrev w_Pl_outerOf : List Cond := Cond.code y_Pl_outerOf b_Pl_outerOf 2 (some .int) :: gw_T
abbrev b_Pl_thingAt : ByteArray := prog_2_method_8_code
def y_Pl_thingAt : MethodName := ⟨R_Pl, "thingAt", "(II)I"⟩
abbrev w_Pl_thingAt : List Cond := Cond.code y_Pl_thingAt b_Pl_thingAt 5 (some .int) :: gw_T
abbrev b_Pl_mark : ByteArray := prog_2_method_9_code
def y_Pl_mark : MethodName := ⟨R_Pl, "mark", "(II)Z"⟩
abbrev w_Pl_mark : List Cond := Cond.code y_Pl_mark b_Pl_mark 3 (some .boolean) :: gw_T
abbrev b_Ro_init : ByteArray := prog_3_method_1_code
def y_Ro_init : MethodName := ⟨R_Ro, "<init>", "()V"⟩
abbrev w_Ro_init : List Cond := Cond.code y_Ro_init b_Ro_init 1 none :: gw_T
abbrev b_Ro_clear : ByteArray := prog_3_method_2_code
def y_Ro_clear : MethodName := ⟨R_Ro, "clear", "()V"⟩
abbrev w_Ro_clear : List Cond := Cond.code y_Ro_clear b_Ro_clear 1 none :: gw_T
abbrev b_Ro_has : ByteArray := prog_3_method_3_code
def y_Ro_has : MethodName := ⟨R_Ro, "has", "(I)Z"⟩
abbrev w_Ro_has : List Cond := Cond.code y_Ro_has b_Ro_has 2 (some .boolean) :: gw_T
abbrev b_Ro_isFull : ByteArray := prog_3_method_4_code
def y_Ro_isFull : MethodName := ⟨R_Ro, "isFull", "()Z"⟩
abbrev w_Ro_isFull : List Cond := Cond.code y_Ro_isFull b_Ro_isFull 1 (some .boolean) :: gw_T
abbrev b_Ro_add : ByteArray := prog_3_method_5_code
def y_Ro_add : MethodName := ⟨R_Ro, "add", "(IIIJ)V"⟩
abbrev w_Ro_add : List Cond := Cond.code y_Ro_add b_Ro_add 7 none :: gw_T
abbrev b_Ro_drop : ByteArray := prog_3_method_6_code
def y_Ro_drop : MethodName := ⟨R_Ro, "drop", "()V"⟩
abbrev w_Ro_drop : List Cond := Cond.code y_Ro_drop b_Ro_drop 1 none :: gw_T
abbrev b_Ro_newest : ByteArray := prog_3_method_7_code
def y_Ro_newest : MethodName := ⟨R_Ro, "newest", "()I"⟩
abbrev w_Ro_newest : List Cond := Cond.code y_Ro_newest b_Ro_newest 1 (some .int) :: gw_T
abbrev b_Ro_kindOf : ByteArray := prog_3_method_8_code
def y_Ro_kindOf : MethodName := ⟨R_Ro, "kindOf", "(I)I"⟩
abbrev w_Ro_kindOf : List Cond := Cond.code y_Ro_kindOf b_Ro_kindOf 2 (some .int) :: gw_T
abbrev b_Ro_firstOf : ByteArray := prog_3_method_9_code
def y_Ro_firstOf : MethodName := ⟨R_Ro, "firstOf", "(I)I"⟩
abbrev w_Ro_firstOf : List Cond := Cond.code y_Ro_firstOf b_Ro_firstOf 2 (some .int) :: gw_T
abbrev b_Ro_secondOf : ByteArray := prog_3_method_10_code
def y_Ro_secondOf : MethodName := ⟨R_Ro, "secondOf", "(I)I"⟩
abbrev w_Ro_secondOf : List Cond := Cond.code y_Ro_secondOf b_Ro_secondOf 2 (some .int) :: gw_T
abbrev b_Ro_numberOf : ByteArray := prog_3_method_11_code
def y_Ro_numberOf : MethodName := ⟨R_Ro, "numberOf", "(I)J"⟩
abbrev w_Ro_numberOf : List Cond := Cond.code y_Ro_numberOf b_Ro_numberOf 2 (some .long) :: gw_T
abbrev b_Ro_newestInWork : ByteArray := prog_3_method_12_code
def y_Ro_newestInWork : MethodName := ⟨R_Ro, "newestInWork", "()I"⟩
abbrev w_Ro_newestInWork : List Cond := Cond.code y_Ro_newestInWork b_Ro_newestInWork 2 (some .int) :: gw_T
abbrev b_Te_init : ByteArray := prog_4_method_1_code
def y_Te_init : MethodName := ⟨R_Te, "<init>", "()V"⟩
abbrev w_Te_init : List Cond := Cond.code y_Te_init b_Te_init 1 none :: gw_T
abbrev b_Te_has : ByteArray := prog_4_method_2_code
def y_Te_has : MethodName := ⟨R_Te, "has", "(I)Z"⟩
abbrev w_Te_has : List Cond := Cond.code y_Te_has b_Te_has 2 (some .boolean) :: gw_T
abbrev b_Te_isFull : ByteArray := prog_4_method_3_code
def y_Te_isFull : MethodName := ⟨R_Te, "isFull", "()Z"⟩
abbrev w_Te_isFull : List Cond := Cond.code y_Te_isFull b_Te_isFull 1 (some .boolean) :: gw_T
abbrev b_Te_addNumber : ByteArray := prog_4_method_4_code
def y_Te_addNumber : MethodName := ⟨R_Te, "addNumber", "(J)I"⟩
abbrev w_Te_addNumber : List Cond := Cond.code y_Te_addNumber b_Te_addNumber 3 (some .int) :: gw_T
abbrev b_Te_addVariable : ByteArray := prog_4_method_5_code
def y_Te_addVariable : MethodName := ⟨R_Te, "addVariable", "(I)I"⟩
abbrev w_Te_addVariable : List Cond := Cond.code y_Te_addVariable b_Te_addVariable 2 (some .int) :: gw_T
abbrev b_Te_addOne : ByteArray := prog_4_method_6_code
def y_Te_addOne : MethodName := ⟨R_Te, "addOne", "(II)I"⟩
abbrev w_Te_addOne : List Cond := Cond.code y_Te_addOne b_Te_addOne 3 (some .int) :: gw_T
abbrev b_Te_addTwo : ByteArray := prog_4_method_7_code
def y_Te_addTwo : MethodName := ⟨R_Te, "addTwo", "(III)I"⟩
abbrev w_Te_addTwo : List Cond := Cond.code y_Te_addTwo b_Te_addTwo 5 (some .int) :: gw_T
abbrev b_Te_addChoose : ByteArray := prog_4_method_8_code
def y_Te_addChoose : MethodName := ⟨R_Te, "addChoose", "(III)I"⟩
abbrev w_Te_addChoose : List Cond := Cond.code y_Te_addChoose b_Te_addChoose 5 (some .int) :: gw_T
abbrev b_Te_oneLess : ByteArray := prog_4_method_9_code
def y_Te_oneLess : MethodName := ⟨R_Te, "oneLess", "(I)I"⟩
abbrev w_Te_oneLess : List Cond := Cond.code y_Te_oneLess b_Te_oneLess 1 (some .int) :: gw_T
abbrev b_Te_add : ByteArray := prog_4_method_10_code
def y_Te_add : MethodName := ⟨R_Te, "add", "(IIIIJI)I"⟩
abbrev w_Te_add : List Cond := Cond.code y_Te_add b_Te_add 9 (some .int) :: gw_T
abbrev b_Te_sortOf : ByteArray := prog_4_method_11_code
def y_Te_sortOf : MethodName := ⟨R_Te, "sortOf", "(I)I"⟩
abbrev w_Te_sortOf : List Cond := Cond.code y_Te_sortOf b_Te_sortOf 2 (some .int) :: gw_T
abbrev b_Te_firstOf : ByteArray := prog_4_method_12_code
def y_Te_firstOf : MethodName := ⟨R_Te, "firstOf", "(I)I"⟩
abbrev w_Te_firstOf : List Cond := Cond.code y_Te_firstOf b_Te_firstOf 2 (some .int) :: gw_T
abbrev b_Te_secondOf : ByteArray := prog_4_method_13_code
def y_Te_secondOf : MethodName := ⟨R_Te, "secondOf", "(I)I"⟩
abbrev w_Te_secondOf : List Cond := Cond.code y_Te_secondOf b_Te_secondOf 2 (some .int) :: gw_T
abbrev b_Te_thirdOf : ByteArray := prog_4_method_14_code
def y_Te_thirdOf : MethodName := ⟨R_Te, "thirdOf", "(I)I"⟩
abbrev w_Te_thirdOf : List Cond := Cond.code y_Te_thirdOf b_Te_thirdOf 2 (some .int) :: gw_T
abbrev b_Te_numberOf : ByteArray := prog_4_method_15_code
def y_Te_numberOf : MethodName := ⟨R_Te, "numberOf", "(I)J"⟩
abbrev w_Te_numberOf : List Cond := Cond.code y_Te_numberOf b_Te_numberOf 2 (some .long) :: gw_T
abbrev b_Te_lackOf : ByteArray := prog_4_method_16_code
def y_Te_lackOf : MethodName := ⟨R_Te, "lackOf", "(I)I"⟩
abbrev w_Te_lackOf : List Cond := Cond.code y_Te_lackOf b_Te_lackOf 2 (some .int) :: gw_T
abbrev b_Th_init : ByteArray := prog_5_method_1_code
def y_Th_init : MethodName := ⟨R_Th, "<init>", "()V"⟩
abbrev w_Th_init : List Cond := Cond.code y_Th_init b_Th_init 1 none :: gw_T
abbrev b_Th_clear : ByteArray := prog_5_method_2_code
def y_Th_clear : MethodName := ⟨R_Th, "clear", "()V"⟩
abbrev w_Th_clear : List Cond := Cond.code y_Th_clear b_Th_clear 1 none :: gw_T
abbrev b_Th_has : ByteArray := prog_5_method_3_code
def y_Th_has : MethodName := ⟨R_Th, "has", "(I)Z"⟩
abbrev w_Th_has : List Cond := Cond.code y_Th_has b_Th_has 2 (some .boolean) :: gw_T
abbrev b_Th_hasRoomFor : ByteArray := prog_5_method_4_code
def y_Th_hasRoomFor : MethodName := ⟨R_Th, "hasRoomFor", "(I)Z"⟩
abbrev w_Th_hasRoomFor : List Cond := Cond.code y_Th_hasRoomFor b_Th_hasRoomFor 2 (some .boolean) :: gw_T
abbrev b_Th_add : ByteArray := prog_5_method_5_code
def y_Th_add : MethodName := ⟨R_Th, "add", "(II)I"⟩
abbrev w_Th_add : List Cond := Cond.code y_Th_add b_Th_add 5 (some .int) :: gw_T
abbrev b_Th_stateOf : ByteArray := prog_5_method_6_code
def y_Th_stateOf : MethodName := ⟨R_Th, "stateOf", "(I)I"⟩
abbrev w_Th_stateOf : List Cond := Cond.code y_Th_stateOf b_Th_stateOf 2 (some .int) :: gw_T
abbrev b_Th_termOf : ByteArray := prog_5_method_7_code
def y_Th_termOf : MethodName := ⟨R_Th, "termOf", "(I)I"⟩
abbrev w_Th_termOf : List Cond := Cond.code y_Th_termOf b_Th_termOf 2 (some .int) :: gw_T
abbrev b_Th_placesOf : ByteArray := prog_5_method_8_code
def y_Th_placesOf : MethodName := ⟨R_Th, "placesOf", "(I)I"⟩
abbrev w_Th_placesOf : List Cond := Cond.code y_Th_placesOf b_Th_placesOf 2 (some .int) :: gw_T
abbrev b_Th_timesOf : ByteArray := prog_5_method_9_code
def y_Th_timesOf : MethodName := ⟨R_Th, "timesOf", "(I)I"⟩
abbrev w_Th_timesOf : List Cond := Cond.code y_Th_timesOf b_Th_timesOf 2 (some .int) :: gw_T
abbrev b_Th_neederOf : ByteArray := prog_5_method_10_code
def y_Th_neederOf : MethodName := ⟨R_Th, "neederOf", "(I)I"⟩
abbrev w_Th_neederOf : List Cond := Cond.code y_Th_neederOf b_Th_neederOf 2 (some .int) :: gw_T
abbrev b_Th_countWork : ByteArray := prog_5_method_11_code
def y_Th_countWork : MethodName := ⟨R_Th, "countWork", "(I)V"⟩
abbrev w_Th_countWork : List Cond := Cond.code y_Th_countWork b_Th_countWork 2 none :: gw_T
abbrev b_Th_putInWork : ByteArray := prog_5_method_12_code
def y_Th_putInWork : MethodName := ⟨R_Th, "putInWork", "(II)V"⟩
abbrev w_Th_putInWork : List Cond := Cond.code y_Th_putInWork b_Th_putInWork 3 none :: gw_T
abbrev b_Th_finish : ByteArray := prog_5_method_13_code
def y_Th_finish : MethodName := ⟨R_Th, "finish", "(ILGraphWalker$Value;)V"⟩
abbrev w_Th_finish : List Cond := Cond.code y_Th_finish b_Th_finish 3 none :: gw_T
abbrev b_Th_copyValue : ByteArray := prog_5_method_14_code
def y_Th_copyValue : MethodName := ⟨R_Th, "copyValue", "(ILGraphWalker$Value;)V"⟩
abbrev w_Th_copyValue : List Cond := Cond.code y_Th_copyValue b_Th_copyValue 3 none :: gw_T
abbrev b_Th_valueSortOf : ByteArray := prog_5_method_15_code
def y_Th_valueSortOf : MethodName := ⟨R_Th, "valueSortOf", "(I)I"⟩
abbrev w_Th_valueSortOf : List Cond := Cond.code y_Th_valueSortOf b_Th_valueSortOf 2 (some .int) :: gw_T
abbrev b_Th_valueFirstOf : ByteArray := prog_5_method_16_code
def y_Th_valueFirstOf : MethodName := ⟨R_Th, "valueFirstOf", "(I)I"⟩
abbrev w_Th_valueFirstOf : List Cond := Cond.code y_Th_valueFirstOf b_Th_valueFirstOf 2 (some .int) :: gw_T
abbrev b_Th_valueSecondOf : ByteArray := prog_5_method_17_code
def y_Th_valueSecondOf : MethodName := ⟨R_Th, "valueSecondOf", "(I)I"⟩
abbrev w_Th_valueSecondOf : List Cond := Cond.code y_Th_valueSecondOf b_Th_valueSecondOf 2 (some .int) :: gw_T
abbrev b_Th_forgetReached : ByteArray := prog_5_method_18_code
def y_Th_forgetReached : MethodName := ⟨R_Th, "forgetReached", "()V"⟩
abbrev w_Th_forgetReached : List Cond := Cond.code y_Th_forgetReached b_Th_forgetReached 1 none :: gw_T
abbrev b_Th_reach : ByteArray := prog_5_method_19_code
def y_Th_reach : MethodName := ⟨R_Th, "reach", "(II)V"⟩
abbrev w_Th_reach : List Cond := Cond.code y_Th_reach b_Th_reach 4 none :: gw_T
abbrev b_Th_reachedAt : ByteArray := prog_5_method_20_code
def y_Th_reachedAt : MethodName := ⟨R_Th, "reachedAt", "(I)I"⟩
abbrev w_Th_reachedAt : List Cond := Cond.code y_Th_reachedAt b_Th_reachedAt 2 (some .int) :: gw_T
abbrev b_Th_keepReached : ByteArray := prog_5_method_21_code
def y_Th_keepReached : MethodName := ⟨R_Th, "keepReached", "(I)I"⟩
abbrev w_Th_keepReached : List Cond := Cond.code y_Th_keepReached b_Th_keepReached 6 (some .int) :: gw_T
abbrev b_Va_init : ByteArray := prog_6_method_1_code
def y_Va_init : MethodName := ⟨R_Va, "<init>", "()V"⟩
abbrev w_Va_init : List Cond := Cond.code y_Va_init b_Va_init 1 none :: gw_T
abbrev b_Va_beNumber : ByteArray := prog_6_method_2_code
def y_Va_beNumber : MethodName := ⟨R_Va, "beNumber", "(J)V"⟩
abbrev w_Va_beNumber : List Cond := Cond.code y_Va_beNumber b_Va_beNumber 3 none :: gw_T
abbrev b_Va_beLambda : ByteArray := prog_6_method_3_code
def y_Va_beLambda : MethodName := ⟨R_Va, "beLambda", "(II)V"⟩
abbrev w_Va_beLambda : List Cond := Cond.code y_Va_beLambda b_Va_beLambda 3 none :: gw_T
abbrev b_Va_bePair : ByteArray := prog_6_method_4_code
def y_Va_bePair : MethodName := ⟨R_Va, "bePair", "(II)V"⟩
abbrev w_Va_bePair : List Cond := Cond.code y_Va_bePair b_Va_bePair 3 none :: gw_T
abbrev b_Va_be : ByteArray := prog_6_method_5_code
def y_Va_be : MethodName := ⟨R_Va, "be", "(IJII)V"⟩
abbrev w_Va_be : List Cond := Cond.code y_Va_be b_Va_be 6 none :: gw_T
abbrev b_Wa_init : ByteArray := prog_7_method_1_code
def y_Wa_init : MethodName := ⟨R_Wa, "<init>", "()V"⟩
abbrev w_Wa_init : List Cond := Cond.code y_Wa_init b_Wa_init 1 none :: gw_T
abbrev b_Wa_start : ByteArray := prog_7_method_2_code
def y_Wa_start : MethodName := ⟨R_Wa, "start", "(IZ)V"⟩
abbrev w_Wa_start : List Cond := Cond.code y_Wa_start b_Wa_start 3 none :: gw_T
abbrev b_Wa_turnTo : ByteArray := prog_7_method_3_code
def y_Wa_turnTo : MethodName := ⟨R_Wa, "turnTo", "(I)V"⟩
abbrev w_Wa_turnTo : List Cond := Cond.code y_Wa_turnTo b_Wa_turnTo 2 none :: gw_T
abbrev b_Wa_step : ByteArray := prog_7_method_4_code
def y_Wa_step : MethodName := ⟨R_Wa, "step", "()V"⟩
abbrev w_Wa_step : List Cond := Cond.code y_Wa_step b_Wa_step 1 none :: gw_T
abbrev b_Wa_tally : ByteArray := prog_7_method_5_code
def y_Wa_tally : MethodName := ⟨R_Wa, "tally", "(I)I"⟩
abbrev w_Wa_tally : List Cond := Cond.code y_Wa_tally b_Wa_tally 2 (some .int) :: gw_T
abbrev b_Wa_ringThing : ByteArray := prog_7_method_6_code
def y_Wa_ringThing : MethodName := ⟨R_Wa, "ringThing", "(I)I"⟩
abbrev w_Wa_ringThing : List Cond := Cond.code y_Wa_ringThing b_Wa_ringThing 5 (some .int) :: gw_T
abbrev b_Wa_takeTerm : ByteArray := prog_7_method_7_code
def y_Wa_takeTerm : MethodName := ⟨R_Wa, "takeTerm", "(II)V"⟩
abbrev w_Wa_takeTerm : List Cond := Cond.code y_Wa_takeTerm b_Wa_takeTerm 3 none :: gw_T
abbrev b_Wa_stepWithTerm : ByteArray := prog_7_method_8_code
def y_Wa_stepWithTerm : MethodName := ⟨R_Wa, "stepWithTerm", "()V"⟩
abbrev w_Wa_stepWithTerm : List Cond := Cond.code y_Wa_stepWithTerm b_Wa_stepWithTerm 1 none :: gw_T
abbrev b_Wa_newThingsFor : ByteArray := prog_7_method_9_code
def y_Wa_newThingsFor : MethodName := ⟨R_Wa, "newThingsFor", "(I)I"⟩
abbrev w_Wa_newThingsFor : List Cond := Cond.code y_Wa_newThingsFor b_Wa_newThingsFor 2 (some .int) :: gw_T
abbrev b_Wa_thingFor : ByteArray := prog_7_method_10_code
def y_Wa_thingFor : MethodName := ⟨R_Wa, "thingFor", "(I)I"⟩
abbrev w_Wa_thingFor : List Cond := Cond.code y_Wa_thingFor b_Wa_thingFor 2 (some .int) :: gw_T
abbrev b_Wa_makePair : ByteArray := prog_7_method_11_code
def y_Wa_makePair : MethodName := ⟨R_Wa, "makePair", "(II)V"⟩
abbrev w_Wa_makePair : List Cond := Cond.code y_Wa_makePair b_Wa_makePair 5 none :: gw_T
abbrev b_Wa_enterApply : ByteArray := prog_7_method_12_code
def y_Wa_enterApply : MethodName := ⟨R_Wa, "enterApply", "(I)V"⟩
abbrev w_Wa_enterApply : List Cond := Cond.code y_Wa_enterApply b_Wa_enterApply 2 none :: gw_T
abbrev b_Wa_enterLet : ByteArray := prog_7_method_13_code
def y_Wa_enterLet : MethodName := ⟨R_Wa, "enterLet", "(II)V"⟩
abbrev w_Wa_enterLet : List Cond := Cond.code y_Wa_enterLet b_Wa_enterLet 4 none :: gw_T
abbrev b_Wa_enter : ByteArray := prog_7_method_14_code
def y_Wa_enter : MethodName := ⟨R_Wa, "enter", "(I)V"⟩
abbrev w_Wa_enter : List Cond := Cond.code y_Wa_enter b_Wa_enter 2 none :: gw_T
abbrev b_Wa_need : ByteArray := prog_7_method_15_code
def y_Wa_need : MethodName := ⟨R_Wa, "need", "(IZ)V"⟩
abbrev w_Wa_need : List Cond := Cond.code y_Wa_need b_Wa_need 3 none :: gw_T
abbrev b_Wa_needWaiting : ByteArray := prog_7_method_16_code
def y_Wa_needWaiting : MethodName := ⟨R_Wa, "needWaiting", "(IZ)V"⟩
abbrev w_Wa_needWaiting : List Cond := Cond.code y_Wa_needWaiting b_Wa_needWaiting 3 none :: gw_T
abbrev b_Wa_stepWithValue : ByteArray := prog_7_method_17_code
def y_Wa_stepWithValue : MethodName := ⟨R_Wa, "stepWithValue", "()V"⟩
abbrev w_Wa_stepWithValue : List Cond := Cond.code y_Wa_stepWithValue b_Wa_stepWithValue 2 none :: gw_T
abbrev b_Wa_giveThing : ByteArray := prog_7_method_18_code
def y_Wa_giveThing : MethodName := ⟨R_Wa, "giveThing", "(I)V"⟩
abbrev w_Wa_giveThing : List Cond := Cond.code y_Wa_giveThing b_Wa_giveThing 2 none :: gw_T
abbrev b_Wa_thenSecond : ByteArray := prog_7_method_19_code
def y_Wa_thenSecond : MethodName := ⟨R_Wa, "thenSecond", "(II)V"⟩
abbrev w_Wa_thenSecond : List Cond := Cond.code y_Wa_thenSecond b_Wa_thenSecond 3 none :: gw_T
abbrev b_Wa_actWith : ByteArray := prog_7_method_20_code
def y_Wa_actWith : MethodName := ⟨R_Wa, "actWith", "(IJ)V"⟩
abbrev w_Wa_actWith : List Cond := Cond.code y_Wa_actWith b_Wa_actWith 4 none :: gw_T
abbrev b_Wa_resultOf : ByteArray := prog_7_method_21_code
def y_Wa_resultOf : MethodName := ⟨R_Wa, "resultOf", "(IJJ)J"⟩
abbrev w_Wa_resultOf : List Cond := Cond.code y_Wa_resultOf b_Wa_resultOf 5 (some .long) :: gw_T
abbrev b_Wa_chooseBranch : ByteArray := prog_7_method_22_code
def y_Wa_chooseBranch : MethodName := ⟨R_Wa, "chooseBranch", "(II)V"⟩
abbrev w_Wa_chooseBranch : List Cond := Cond.code y_Wa_chooseBranch b_Wa_chooseBranch 4 none :: gw_T
abbrev b_Wa_takeOfPair : ByteArray := prog_7_method_23_code
def y_Wa_takeOfPair : MethodName := ⟨R_Wa, "takeOfPair", "(I)V"⟩
abbrev w_Wa_takeOfPair : List Cond := Cond.code y_Wa_takeOfPair b_Wa_takeOfPair 2 none :: gw_T
abbrev b_Wa_sweepUnreached : ByteArray := prog_7_method_24_code
def y_Wa_sweepUnreached : MethodName := ⟨R_Wa, "sweepUnreached", "()I"⟩
abbrev w_Wa_sweepUnreached : List Cond := Cond.code y_Wa_sweepUnreached b_Wa_sweepUnreached 2 (some .int) :: gw_T
abbrev b_Wa_reachFromHand : ByteArray := prog_7_method_25_code
def y_Wa_reachFromHand : MethodName := ⟨R_Wa, "reachFromHand", "()V"⟩
abbrev w_Wa_reachFromHand : List Cond := Cond.code y_Wa_reachFromHand b_Wa_reachFromHand 1 none :: gw_T
abbrev b_Wa_reachFromRow : ByteArray := prog_7_method_26_code
def y_Wa_reachFromRow : MethodName := ⟨R_Wa, "reachFromRow", "()V"⟩
abbrev w_Wa_reachFromRow : List Cond := Cond.code y_Wa_reachFromRow b_Wa_reachFromRow 2 none :: gw_T
abbrev b_Wa_reachFromThing : ByteArray := prog_7_method_27_code
def y_Wa_reachFromThing : MethodName := ⟨R_Wa, "reachFromThing", "(I)V"⟩
abbrev w_Wa_reachFromThing : List Cond := Cond.code y_Wa_reachFromThing b_Wa_reachFromThing 3 none :: gw_T
abbrev b_Wa_reachOfValue : ByteArray := prog_7_method_28_code
def y_Wa_reachOfValue : MethodName := ⟨R_Wa, "reachOfValue", "(III)V"⟩
abbrev w_Wa_reachOfValue : List Cond := Cond.code y_Wa_reachOfValue b_Wa_reachOfValue 4 none :: gw_T
abbrev b_Wa_reachPlaces : ByteArray := prog_7_method_29_code
def y_Wa_reachPlaces : MethodName := ⟨R_Wa, "reachPlaces", "(I)V"⟩
abbrev w_Wa_reachPlaces : List Cond := Cond.code y_Wa_reachPlaces b_Wa_reachPlaces 4 none :: gw_T
abbrev b_La_number : ByteArray := method_3_code
def y_La_number : MethodName := ⟨R_La, "number", "(LGraphWalker;J[J)I"⟩
abbrev b_La_variable : ByteArray := method_4_code
def y_La_variable : MethodName := ⟨R_La, "variable", "(LGraphWalker;I[J)I"⟩
abbrev b_La_one : ByteArray := method_5_code
def y_La_one : MethodName := ⟨R_La, "one", "(LGraphWalker;II[J)I"⟩
abbrev b_La_two : ByteArray := method_6_code
def y_La_two : MethodName := ⟨R_La, "two", "(LGraphWalker;III[J)I"⟩
abbrev b_La_choose : ByteArray := method_7_code
def y_La_choose : MethodName := ⟨R_La, "choose", "(LGraphWalker;III[J)I"⟩
abbrev b_La_lacks : ByteArray := method_8_code
def y_La_lacks : MethodName := ⟨R_La, "lacks", "(LGraphWalker;I[J)I"⟩
abbrev b_La_begin : ByteArray := method_9_code
def y_La_begin : MethodName := ⟨R_La, "begin", "(LGraphWalker;IZ)I"⟩
abbrev b_La_run : ByteArray := method_10_code
def y_La_run : MethodName := ⟨R_La, "run", "(LGraphWalker;I[J)I"⟩
abbrev b_La_into : ByteArray := method_11_code
def y_La_into : MethodName := ⟨R_La, "into", "(LGraphWalker;I)I"⟩
abbrev b_La_told : ByteArray := method_12_code
def y_La_told : MethodName := ⟨R_La, "told", "(LGraphWalker;I[J)I"⟩
abbrev b_La_thing : ByteArray := method_13_code
def y_La_thing : MethodName := ⟨R_La, "thing", "(LGraphWalker;I[J)I"⟩
abbrev b_La_worked : ByteArray := method_14_code
def y_La_worked : MethodName := ⟨R_La, "worked", "(LGraphWalker;II[J)I"⟩
abbrev b_La_ring : ByteArray := method_15_code
def y_La_ring : MethodName := ⟨R_La, "ring", "(LGraphWalker;I[J)I"⟩
abbrev b_La_entry : ByteArray := method_16_code
def y_La_entry : MethodName := ⟨R_La, "entry", "(LGraphWalker;I[J)I"⟩
abbrev b_La_collect : ByteArray := method_17_code
def y_La_collect : MethodName := ⟨R_La, "collect", "(LGraphWalker;[J)I"⟩
abbrev b_La_every : ByteArray := method_18_code
def y_La_every : MethodName := ⟨R_La, "every", "(LGraphWalker;I[J)I"⟩
theorem tb_2 : (Jvm.Cond.initialized "GraphWalker$Walk") ∈ gw_all := List.mem_filter.mpr ⟨List.mem_append_right _ (List.mem_of_getElem? (i := 2) (by decide +kernel)), rfl⟩
theorem tb_3 : (Jvm.Cond.initialized "GraphWalker$Terms") ∈ gw_all := List.mem_filter.mpr ⟨List.mem_append_right _ (List.mem_of_getElem? (i := 3) (by decide +kernel)), rfl⟩
theorem tb_4 : (Jvm.Cond.initialized "GraphWalker$Places") ∈ gw_all := List.mem_filter.mpr ⟨List.mem_append_right _ (List.mem_of_getElem? (i := 4) (by decide +kernel)), rfl⟩
theorem tb_5 : (Jvm.Cond.initialized "GraphWalker$Things") ∈ gw_all := List.mem_filter.mpr ⟨List.mem_append_right _ (List.mem_of_getElem? (i := 5) (by decide +kernel)), rfl⟩
theorem tb_6 : (Jvm.Cond.initialized "GraphWalker$Row") ∈ gw_all := List.mem_filter.mpr ⟨List.mem_append_right _ (List.mem_of_getElem? (i := 6) (by decide +kernel)), rfl⟩
theorem tb_7 : (Jvm.Cond.initialized "GraphWalker$Value") ∈ gw_all := List.mem_filter.mpr ⟨List.mem_append_right _ (List.mem_of_getElem? (i := 7) (by decide +kernel)), rfl⟩
theorem tb_8 : (Jvm.Cond.initialized "GraphWalkerModel") ∈ gw_all := List.mem_filter.mpr ⟨List.mem_append_right _ (List.mem_of_getElem? (i := 8) (by decide +kernel)), rfl⟩
theorem tb_15 : (Jvm.Cond.initialized "java/lang/Math") ∈ gw_all := List.mem_filter.mpr ⟨List.mem_append_right _ (List.mem_of_getElem? (i := 15) (by decide +kernel)), rfl⟩
theorem tb_36 : (Jvm.Cond.fieldLink "GraphWalker$Terms" (9 : Nat) "GraphWalker$Terms" "sorts" "[I") ∈ gw_all := List.mem_filter.mpr ⟨List.mem_append_right _ (List.mem_of_getElem? (i := 36) (by decide +kernel)), rfl⟩
theorem tb_37 : (Jvm.Cond.fieldLink "GraphWalker$Terms" (15 : Nat) "GraphWalker$Terms" "firsts" "[I") ∈ gw_all := List.mem_filter.mpr ⟨List.mem_append_right _ (List.mem_of_getElem? (i := 37) (by decide +kernel)), rfl⟩
theorem tb_38 : (Jvm.Cond.fieldLink "GraphWalker$Terms" (18 : Nat) "GraphWalker$Terms" "seconds" "[I") ∈ gw_all := List.mem_filter.mpr ⟨List.mem_append_right _ (List.mem_of_getElem? (i := 38) (by decide +kernel)), rfl⟩
theorem tb_39 : (Jvm.Cond.fieldLink "GraphWalker$Terms" (21 : Nat) "GraphWalker$Terms" "thirds" "[I") ∈ gw_all := List.mem_filter.mpr ⟨List.mem_append_right _ (List.mem_of_getElem? (i := 39) (by decide +kernel)), rfl⟩
theorem tb_40 : (Jvm.Cond.fieldLink "GraphWalker$Terms" (24 : Nat) "GraphWalker$Terms" "numbers" "[J") ∈ gw_all := List.mem_filter.mpr ⟨List.mem_append_right _ (List.mem_of_getElem? (i := 40) (by decide +kernel)), rfl⟩
theorem tb_41 : (Jvm.Cond.fieldLink "GraphWalker$Terms" (28 : Nat) "GraphWalker$Terms" "lacking" "[I") ∈ gw_all := List.mem_filter.mpr ⟨List.mem_append_right _ (List.mem_of_getElem? (i := 41) (by decide +kernel)), rfl⟩
theorem tb_42 : (Jvm.Cond.fieldLink "GraphWalker$Terms" (31 : Nat) "GraphWalker$Terms" "count" "I") ∈ gw_all := List.mem_filter.mpr ⟨List.mem_append_right _ (List.mem_of_getElem? (i := 42) (by decide +kernel)), rfl⟩
theorem tb_66 : (Jvm.Cond.fieldLink "GraphWalker$Places" (9 : Nat) "GraphWalker$Places" "held" "[I") ∈ gw_all := List.mem_filter.mpr ⟨List.mem_append_right _ (List.mem_of_getElem? (i := 66) (by decide +kernel)), rfl⟩
theorem tb_67 : (Jvm.Cond.fieldLink "GraphWalker$Places" (15 : Nat) "GraphWalker$Places" "outers" "[I") ∈ gw_all := List.mem_filter.mpr ⟨List.mem_append_right _ (List.mem_of_getElem? (i := 67) (by decide +kernel)), rfl⟩
theorem tb_68 : (Jvm.Cond.fieldLink "GraphWalker$Places" (18 : Nat) "GraphWalker$Places" "marks" "[I") ∈ gw_all := List.mem_filter.mpr ⟨List.mem_append_right _ (List.mem_of_getElem? (i := 68) (by decide +kernel)), rfl⟩
theorem tb_69 : (Jvm.Cond.fieldLink "GraphWalker$Places" (21 : Nat) "GraphWalker$Places" "made" "I") ∈ gw_all := List.mem_filter.mpr ⟨List.mem_append_right _ (List.mem_of_getElem? (i := 69) (by decide +kernel)), rfl⟩
theorem tb_70 : (Jvm.Cond.fieldLinkNest "GraphWalker$Walk" (123 : Nat) "GraphWalker$Places" "made" "I" "GraphWalker") ∈ gw_all := List.mem_filter.mpr ⟨List.mem_append_right _ (List.mem_of_getElem? (i := 70) (by decide +kernel)), rfl⟩
theorem tb_86 : (Jvm.Cond.fieldLink "GraphWalker$Things" (9 : Nat) "GraphWalker$Things" "states" "[I") ∈ gw_all := List.mem_filter.mpr ⟨List.mem_append_right _ (List.mem_of_getElem? (i := 86) (by decide +kernel)), rfl⟩
theorem tb_87 : (Jvm.Cond.fieldLink "GraphWalker$Things" (15 : Nat) "GraphWalker$Things" "terms" "[I") ∈ gw_all := List.mem_filter.mpr ⟨List.mem_append_right _ (List.mem_of_getElem? (i := 87) (by decide +kernel)), rfl⟩
theorem tb_88 : (Jvm.Cond.fieldLink "GraphWalker$Things" (18 : Nat) "GraphWalker$Things" "places" "[I") ∈ gw_all := List.mem_filter.mpr ⟨List.mem_append_right _ (List.mem_of_getElem? (i := 88) (by decide +kernel)), rfl⟩
theorem tb_89 : (Jvm.Cond.fieldLink "GraphWalker$Things" (21 : Nat) "GraphWalker$Things" "times" "[I") ∈ gw_all := List.mem_filter.mpr ⟨List.mem_append_right _ (List.mem_of_getElem? (i := 89) (by decide +kernel)), rfl⟩
theorem tb_90 : (Jvm.Cond.fieldLink "GraphWalker$Things" (24 : Nat) "GraphWalker$Things" "needers" "[I") ∈ gw_all := List.mem_filter.mpr ⟨List.mem_append_right _ (List.mem_of_getElem? (i := 90) (by decide +kernel)), rfl⟩
theorem tb_91 : (Jvm.Cond.fieldLink "GraphWalker$Things" (27 : Nat) "GraphWalker$Things" "valueSorts" "[I") ∈ gw_all := List.mem_filter.mpr ⟨List.mem_append_right _ (List.mem_of_getElem? (i := 91) (by decide +kernel)), rfl⟩
theorem tb_92 : (Jvm.Cond.fieldLink "GraphWalker$Things" (30 : Nat) "GraphWalker$Things" "valueNumbers" "[J") ∈ gw_all := List.mem_filter.mpr ⟨List.mem_append_right _ (List.mem_of_getElem? (i := 92) (by decide +kernel)), rfl⟩
theorem tb_93 : (Jvm.Cond.fieldLink "GraphWalker$Things" (34 : Nat) "GraphWalker$Things" "valueFirsts" "[I") ∈ gw_all := List.mem_filter.mpr ⟨List.mem_append_right _ (List.mem_of_getElem? (i := 93) (by decide +kernel)), rfl⟩
theorem tb_94 : (Jvm.Cond.fieldLink "GraphWalker$Things" (37 : Nat) "GraphWalker$Things" "valueSeconds" "[I") ∈ gw_all := List.mem_filter.mpr ⟨List.mem_append_right _ (List.mem_of_getElem? (i := 94) (by decide +kernel)), rfl⟩
theorem tb_95 : (Jvm.Cond.fieldLink "GraphWalker$Things" (40 : Nat) "GraphWalker$Things" "marks" "[I") ∈ gw_all := List.mem_filter.mpr ⟨List.mem_append_right _ (List.mem_of_getElem? (i := 95) (by decide +kernel)), rfl⟩
theorem tb_96 : (Jvm.Cond.fieldLink "GraphWalker$Things" (43 : Nat) "GraphWalker$Things" "there" "[I") ∈ gw_all := List.mem_filter.mpr ⟨List.mem_append_right _ (List.mem_of_getElem? (i := 96) (by decide +kernel)), rfl⟩
theorem tb_97 : (Jvm.Cond.fieldLink "GraphWalker$Things" (46 : Nat) "GraphWalker$Things" "reached" "[I") ∈ gw_all := List.mem_filter.mpr ⟨List.mem_append_right _ (List.mem_of_getElem? (i := 97) (by decide +kernel)), rfl⟩
theorem tb_98 : (Jvm.Cond.fieldLink "GraphWalker$Things" (49 : Nat) "GraphWalker$Things" "made" "I") ∈ gw_all := List.mem_filter.mpr ⟨List.mem_append_right _ (List.mem_of_getElem? (i := 98) (by decide +kernel)), rfl⟩
theorem tb_99 : (Jvm.Cond.fieldLinkNest "GraphWalker$Walk" (114 : Nat) "GraphWalker$Things" "made" "I" "GraphWalker") ∈ gw_all := List.mem_filter.mpr ⟨List.mem_append_right _ (List.mem_of_getElem? (i := 99) (by decide +kernel)), rfl⟩
theorem tb_100 : (Jvm.Cond.fieldLink "GraphWalker$Things" (53 : Nat) "GraphWalker$Things" "thereCount" "I") ∈ gw_all := List.mem_filter.mpr ⟨List.mem_append_right _ (List.mem_of_getElem? (i := 100) (by decide +kernel)), rfl⟩
theorem tb_101 : (Jvm.Cond.fieldLinkNest "GraphWalker$Walk" (117 : Nat) "GraphWalker$Things" "thereCount" "I" "GraphWalker") ∈ gw_all := List.mem_filter.mpr ⟨List.mem_append_right _ (List.mem_of_getElem? (i := 101) (by decide +kernel)), rfl⟩
theorem tb_102 : (Jvm.Cond.fieldLink "GraphWalker$Things" (56 : Nat) "GraphWalker$Things" "reachedCount" "I") ∈ gw_all := List.mem_filter.mpr ⟨List.mem_append_right _ (List.mem_of_getElem? (i := 102) (by decide +kernel)), rfl⟩
theorem tb_103 : (Jvm.Cond.fieldLinkNest "GraphWalker$Walk" (268 : Nat) "GraphWalker$Things" "reachedCount" "I" "GraphWalker") ∈ gw_all := List.mem_filter.mpr ⟨List.mem_append_right _ (List.mem_of_getElem? (i := 103) (by decide +kernel)), rfl⟩
theorem tb_141 : (Jvm.Cond.fieldLink "GraphWalker$Row" (9 : Nat) "GraphWalker$Row" "kinds" "[I") ∈ gw_all := List.mem_filter.mpr ⟨List.mem_append_right _ (List.mem_of_getElem? (i := 141) (by decide +kernel)), rfl⟩
theorem tb_142 : (Jvm.Cond.fieldLink "GraphWalker$Row" (15 : Nat) "GraphWalker$Row" "firsts" "[I") ∈ gw_all := List.mem_filter.mpr ⟨List.mem_append_right _ (List.mem_of_getElem? (i := 142) (by decide +kernel)), rfl⟩
theorem tb_143 : (Jvm.Cond.fieldLink "GraphWalker$Row" (18 : Nat) "GraphWalker$Row" "seconds" "[I") ∈ gw_all := List.mem_filter.mpr ⟨List.mem_append_right _ (List.mem_of_getElem? (i := 143) (by decide +kernel)), rfl⟩
theorem tb_144 : (Jvm.Cond.fieldLink "GraphWalker$Row" (21 : Nat) "GraphWalker$Row" "numbers" "[J") ∈ gw_all := List.mem_filter.mpr ⟨List.mem_append_right _ (List.mem_of_getElem? (i := 144) (by decide +kernel)), rfl⟩
theorem tb_145 : (Jvm.Cond.fieldLink "GraphWalker$Row" (25 : Nat) "GraphWalker$Row" "length" "I") ∈ gw_all := List.mem_filter.mpr ⟨List.mem_append_right _ (List.mem_of_getElem? (i := 145) (by decide +kernel)), rfl⟩
theorem tb_146 : (Jvm.Cond.fieldLinkNest "GraphWalker$Walk" (111 : Nat) "GraphWalker$Row" "length" "I" "GraphWalker") ∈ gw_all := List.mem_filter.mpr ⟨List.mem_append_right _ (List.mem_of_getElem? (i := 146) (by decide +kernel)), rfl⟩
theorem tb_147 : (Jvm.Cond.fieldLink "GraphWalker$Row" (29 : Nat) "GraphWalker$Row" "greatest" "I") ∈ gw_all := List.mem_filter.mpr ⟨List.mem_append_right _ (List.mem_of_getElem? (i := 147) (by decide +kernel)), rfl⟩
theorem tb_148 : (Jvm.Cond.fieldLinkNest "GraphWalker$Walk" (120 : Nat) "GraphWalker$Row" "greatest" "I" "GraphWalker") ∈ gw_all := List.mem_filter.mpr ⟨List.mem_append_right _ (List.mem_of_getElem? (i := 148) (by decide +kernel)), rfl⟩
theorem tb_168 : (Jvm.Cond.fieldLink "GraphWalker$Value" (9 : Nat) "GraphWalker$Value" "sort" "I") ∈ gw_all := List.mem_filter.mpr ⟨List.mem_append_right _ (List.mem_of_getElem? (i := 168) (by decide +kernel)), rfl⟩
theorem tb_169 : (Jvm.Cond.fieldLinkNest "GraphWalker" (87 : Nat) "GraphWalker$Value" "sort" "I" "GraphWalker") ∈ gw_all := List.mem_filter.mpr ⟨List.mem_append_right _ (List.mem_of_getElem? (i := 169) (by decide +kernel)), rfl⟩
theorem tb_170 : (Jvm.Cond.fieldLinkNest "GraphWalker$Things" (63 : Nat) "GraphWalker$Value" "sort" "I" "GraphWalker") ∈ gw_all := List.mem_filter.mpr ⟨List.mem_append_right _ (List.mem_of_getElem? (i := 170) (by decide +kernel)), rfl⟩
theorem tb_171 : (Jvm.Cond.fieldLinkNest "GraphWalker$Walk" (248 : Nat) "GraphWalker$Value" "sort" "I" "GraphWalker") ∈ gw_all := List.mem_filter.mpr ⟨List.mem_append_right _ (List.mem_of_getElem? (i := 171) (by decide +kernel)), rfl⟩
theorem tb_172 : (Jvm.Cond.fieldLink "GraphWalker$Value" (15 : Nat) "GraphWalker$Value" "number" "J") ∈ gw_all := List.mem_filter.mpr ⟨List.mem_append_right _ (List.mem_of_getElem? (i := 172) (by decide +kernel)), rfl⟩
theorem tb_173 : (Jvm.Cond.fieldLinkNest "GraphWalker" (105 : Nat) "GraphWalker$Value" "number" "J" "GraphWalker") ∈ gw_all := List.mem_filter.mpr ⟨List.mem_append_right _ (List.mem_of_getElem? (i := 173) (by decide +kernel)), rfl⟩
theorem tb_174 : (Jvm.Cond.fieldLinkNest "GraphWalker$Things" (68 : Nat) "GraphWalker$Value" "number" "J" "GraphWalker") ∈ gw_all := List.mem_filter.mpr ⟨List.mem_append_right _ (List.mem_of_getElem? (i := 174) (by decide +kernel)), rfl⟩
theorem tb_175 : (Jvm.Cond.fieldLinkNest "GraphWalker$Walk" (251 : Nat) "GraphWalker$Value" "number" "J" "GraphWalker") ∈ gw_all := List.mem_filter.mpr ⟨List.mem_append_right _ (List.mem_of_getElem? (i := 175) (by decide +kernel)), rfl⟩
theorem tb_176 : (Jvm.Cond.fieldLink "GraphWalker$Value" (19 : Nat) "GraphWalker$Value" "first" "I") ∈ gw_all := List.mem_filter.mpr ⟨List.mem_append_right _ (List.mem_of_getElem? (i := 176) (by decide +kernel)), rfl⟩
theorem tb_178 : (Jvm.Cond.fieldLinkNest "GraphWalker$Things" (72 : Nat) "GraphWalker$Value" "first" "I" "GraphWalker") ∈ gw_all := List.mem_filter.mpr ⟨List.mem_append_right _ (List.mem_of_getElem? (i := 178) (by decide +kernel)), rfl⟩
theorem tb_179 : (Jvm.Cond.fieldLinkNest "GraphWalker$Walk" (239 : Nat) "GraphWalker$Value" "first" "I" "GraphWalker") ∈ gw_all := List.mem_filter.mpr ⟨List.mem_append_right _ (List.mem_of_getElem? (i := 179) (by decide +kernel)), rfl⟩
theorem tb_180 : (Jvm.Cond.fieldLink "GraphWalker$Value" (22 : Nat) "GraphWalker$Value" "second" "I") ∈ gw_all := List.mem_filter.mpr ⟨List.mem_append_right _ (List.mem_of_getElem? (i := 180) (by decide +kernel)), rfl⟩
theorem tb_182 : (Jvm.Cond.fieldLinkNest "GraphWalker$Things" (75 : Nat) "GraphWalker$Value" "second" "I" "GraphWalker") ∈ gw_all := List.mem_filter.mpr ⟨List.mem_append_right _ (List.mem_of_getElem? (i := 182) (by decide +kernel)), rfl⟩
theorem tb_183 : (Jvm.Cond.fieldLinkNest "GraphWalker$Walk" (245 : Nat) "GraphWalker$Value" "second" "I" "GraphWalker") ∈ gw_all := List.mem_filter.mpr ⟨List.mem_append_right _ (List.mem_of_getElem? (i := 183) (by decide +kernel)), rfl⟩
theorem tb_193 : (Jvm.Cond.fieldLink "GraphWalker$Walk" (12 : Nat) "GraphWalker$Walk" "terms" "LGraphWalker$Terms;") ∈ gw_all := List.mem_filter.mpr ⟨List.mem_append_right _ (List.mem_of_getElem? (i := 193) (by decide +kernel)), rfl⟩
theorem tb_195 : (Jvm.Cond.fieldLink "GraphWalker$Walk" (21 : Nat) "GraphWalker$Walk" "places" "LGraphWalker$Places;") ∈ gw_all := List.mem_filter.mpr ⟨List.mem_append_right _ (List.mem_of_getElem? (i := 195) (by decide +kernel)), rfl⟩
theorem tb_196 : (Jvm.Cond.fieldLink "GraphWalker$Walk" (28 : Nat) "GraphWalker$Walk" "things" "LGraphWalker$Things;") ∈ gw_all := List.mem_filter.mpr ⟨List.mem_append_right _ (List.mem_of_getElem? (i := 196) (by decide +kernel)), rfl⟩
theorem tb_198 : (Jvm.Cond.fieldLink "GraphWalker$Walk" (35 : Nat) "GraphWalker$Walk" "row" "LGraphWalker$Row;") ∈ gw_all := List.mem_filter.mpr ⟨List.mem_append_right _ (List.mem_of_getElem? (i := 198) (by decide +kernel)), rfl⟩
theorem tb_200 : (Jvm.Cond.fieldLink "GraphWalker$Walk" (42 : Nat) "GraphWalker$Walk" "value" "LGraphWalker$Value;") ∈ gw_all := List.mem_filter.mpr ⟨List.mem_append_right _ (List.mem_of_getElem? (i := 200) (by decide +kernel)), rfl⟩
theorem tb_201 : (Jvm.Cond.fieldLinkNest "GraphWalker" (83 : Nat) "GraphWalker$Walk" "value" "LGraphWalker$Value;" "GraphWalker") ∈ gw_all := List.mem_filter.mpr ⟨List.mem_append_right _ (List.mem_of_getElem? (i := 201) (by decide +kernel)), rfl⟩
theorem tb_202 : (Jvm.Cond.fieldLink "GraphWalker$Walk" (46 : Nat) "GraphWalker$Walk" "outcome" "I") ∈ gw_all := List.mem_filter.mpr ⟨List.mem_append_right _ (List.mem_of_getElem? (i := 202) (by decide +kernel)), rfl⟩
theorem tb_203 : (Jvm.Cond.fieldLinkNest "GraphWalker" (76 : Nat) "GraphWalker$Walk" "outcome" "I" "GraphWalker") ∈ gw_all := List.mem_filter.mpr ⟨List.mem_append_right _ (List.mem_of_getElem? (i := 203) (by decide +kernel)), rfl⟩
theorem tb_204 : (Jvm.Cond.fieldLink "GraphWalker$Walk" (50 : Nat) "GraphWalker$Walk" "shares" "Z") ∈ gw_all := List.mem_filter.mpr ⟨List.mem_append_right _ (List.mem_of_getElem? (i := 204) (by decide +kernel)), rfl⟩
theorem tb_205 : (Jvm.Cond.fieldLink "GraphWalker$Walk" (54 : Nat) "GraphWalker$Walk" "hand" "I") ∈ gw_all := List.mem_filter.mpr ⟨List.mem_append_right _ (List.mem_of_getElem? (i := 205) (by decide +kernel)), rfl⟩
theorem tb_206 : (Jvm.Cond.fieldLink "GraphWalker$Walk" (57 : Nat) "GraphWalker$Walk" "handTerm" "I") ∈ gw_all := List.mem_filter.mpr ⟨List.mem_append_right _ (List.mem_of_getElem? (i := 206) (by decide +kernel)), rfl⟩
theorem tb_207 : (Jvm.Cond.fieldLink "GraphWalker$Walk" (60 : Nat) "GraphWalker$Walk" "handPlaces" "I") ∈ gw_all := List.mem_filter.mpr ⟨List.mem_append_right _ (List.mem_of_getElem? (i := 207) (by decide +kernel)), rfl⟩
theorem tb_208 : (Jvm.Cond.fieldLink "GraphWalker$Walk" (63 : Nat) "GraphWalker$Walk" "handThing" "I") ∈ gw_all := List.mem_filter.mpr ⟨List.mem_append_right _ (List.mem_of_getElem? (i := 208) (by decide +kernel)), rfl⟩
theorem tb_209 : (Jvm.Cond.fieldLink "GraphWalker$Walk" (66 : Nat) "GraphWalker$Walk" "steps" "I") ∈ gw_all := List.mem_filter.mpr ⟨List.mem_append_right _ (List.mem_of_getElem? (i := 209) (by decide +kernel)), rfl⟩
theorem tb_210 : (Jvm.Cond.fieldLink "GraphWalker$Walk" (69 : Nat) "GraphWalker$Walk" "needsOfDone" "I") ∈ gw_all := List.mem_filter.mpr ⟨List.mem_append_right _ (List.mem_of_getElem? (i := 210) (by decide +kernel)), rfl⟩
theorem tb_211 : (Jvm.Cond.fieldLink "GraphWalker$Walk" (72 : Nat) "GraphWalker$Walk" "needsOfWaiting" "I") ∈ gw_all := List.mem_filter.mpr ⟨List.mem_append_right _ (List.mem_of_getElem? (i := 211) (by decide +kernel)), rfl⟩
theorem tb_212 : (Jvm.Cond.fieldLink "GraphWalker$Walk" (75 : Nat) "GraphWalker$Walk" "ringNeeded" "I") ∈ gw_all := List.mem_filter.mpr ⟨List.mem_append_right _ (List.mem_of_getElem? (i := 212) (by decide +kernel)), rfl⟩
theorem tb_213 : (Jvm.Cond.fieldLink "GraphWalker$Walk" (78 : Nat) "GraphWalker$Walk" "pace" "I") ∈ gw_all := List.mem_filter.mpr ⟨List.mem_append_right _ (List.mem_of_getElem? (i := 213) (by decide +kernel)), rfl⟩
theorem tb_215 : (Jvm.Cond.fieldLink "GraphWalker$Walk" (81 : Nat) "GraphWalker$Walk" "round" "I") ∈ gw_all := List.mem_filter.mpr ⟨List.mem_append_right _ (List.mem_of_getElem? (i := 215) (by decide +kernel)), rfl⟩
theorem tb_251 : (Jvm.Cond.fieldLink "GraphWalker" (10 : Nat) "GraphWalker" "walk" "LGraphWalker$Walk;") ∈ gw_all := List.mem_filter.mpr ⟨List.mem_append_right _ (List.mem_of_getElem? (i := 251) (by decide +kernel)), rfl⟩
theorem tb_355 : (Jvm.Cond.methodLink "GraphWalker$Terms" (35 : Nat) ({ cls := "GraphWalker$Terms", name := "add", desc := "(IIIIJI)I" } : Jvm.MethodName)) ∈ gw_all := List.mem_filter.mpr ⟨List.mem_append_right _ (List.mem_of_getElem? (i := 355) (by decide +kernel)), rfl⟩
theorem tb_357 : (Jvm.Cond.instanceMethod ({ cls := "GraphWalker$Terms", name := "add", desc := "(IIIIJI)I" } : Jvm.MethodName)) ∈ gw_all := List.mem_filter.mpr ⟨List.mem_append_right _ (List.mem_of_getElem? (i := 357) (by decide +kernel)), rfl⟩
theorem tb_358 : (Jvm.Cond.code ({ cls := "GraphWalker$Terms", name := "add", desc := "(IIIIJI)I" } : Jvm.MethodName) prog_4_method_10_code (9 : Nat) (Option.some Jvm.ClassFile.FieldType.int)) ∈ gw_T := List.mem_filter.mpr ⟨List.mem_append_right _ (List.mem_of_getElem? (i := 358) (by decide +kernel)), rfl⟩
theorem tb_400 : (Jvm.Cond.instanceMethod ({ cls := "GraphWalker$Terms", name := "has", desc := "(I)Z" } : Jvm.MethodName)) ∈ gw_all := List.mem_filter.mpr ⟨List.mem_append_right _ (List.mem_of_getElem? (i := 400) (by decide +kernel)), rfl⟩
theorem tb_401 : (Jvm.Cond.selects "GraphWalker$Terms" ({ cls := "GraphWalker$Terms", name := "has", desc := "(I)Z" } : Jvm.MethodName) ({ cls := "GraphWalker$Terms", name := "has", desc := "(I)Z" } : Jvm.MethodName)) ∈ gw_all := List.mem_filter.mpr ⟨List.mem_append_right _ (List.mem_of_getElem? (i := 401) (by decide +kernel)), rfl⟩
theorem tb_402 : (Jvm.Cond.code ({ cls := "GraphWalker$Terms", name := "has", desc := "(I)Z" } : Jvm.MethodName) prog_4_method_2_code (2 : Nat) (Option.some Jvm.ClassFile.FieldType.boolean)) ∈ gw_T := List.mem_filter.mpr ⟨List.mem_append_right _ (List.mem_of_getElem? (i := 402) (by decide +kernel)), rfl⟩
theorem tb_424 : (Jvm.Cond.methodLink "GraphWalker$Terms" (39 : Nat) ({ cls := "GraphWalker$Terms", name := "lackOf", desc := "(I)I" } : Jvm.MethodName)) ∈ gw_all := List.mem_filter.mpr ⟨List.mem_append_right _ (List.mem_of_getElem? (i := 424) (by decide +kernel)), rfl⟩
theorem tb_425 : (Jvm.Cond.instanceMethod ({ cls := "GraphWalker$Terms", name := "lackOf", desc := "(I)I" } : Jvm.MethodName)) ∈ gw_all := List.mem_filter.mpr ⟨List.mem_append_right _ (List.mem_of_getElem? (i := 425) (by decide +kernel)), rfl⟩
theorem tb_426 : (Jvm.Cond.selects "GraphWalker$Terms" ({ cls := "GraphWalker$Terms", name := "lackOf", desc := "(I)I" } : Jvm.MethodName) ({ cls := "GraphWalker$Terms", name := "lackOf", desc := "(I)I" } : Jvm.MethodName)) ∈ gw_all := List.mem_filter.mpr ⟨List.mem_append_right _ (List.mem_of_getElem? (i := 426) (by decide +kernel)), rfl⟩
theorem tb_427 : (Jvm.Cond.code ({ cls := "GraphWalker$Terms", name := "lackOf", desc := "(I)I" } : Jvm.MethodName) prog_4_method_16_code (2 : Nat) (Option.some Jvm.ClassFile.FieldType.int)) ∈ gw_T := List.mem_filter.mpr ⟨List.mem_append_right _ (List.mem_of_getElem? (i := 427) (by decide +kernel)), rfl⟩
theorem tb_428 : (Jvm.Cond.methodLink "GraphWalker$Terms" (52 : Nat) ({ cls := "GraphWalker$Terms", name := "has", desc := "(I)Z" } : Jvm.MethodName)) ∈ gw_all := List.mem_filter.mpr ⟨List.mem_append_right _ (List.mem_of_getElem? (i := 428) (by decide +kernel)), rfl⟩
theorem tb_429 : (Jvm.Cond.methodLink "GraphWalker$Terms" (43 : Nat) ({ cls := "GraphWalker$Terms", name := "oneLess", desc := "(I)I" } : Jvm.MethodName)) ∈ gw_all := List.mem_filter.mpr ⟨List.mem_append_right _ (List.mem_of_getElem? (i := 429) (by decide +kernel)), rfl⟩
theorem tb_430 : (Jvm.Cond.static ({ cls := "GraphWalker$Terms", name := "oneLess", desc := "(I)I" } : Jvm.MethodName)) ∈ gw_all := List.mem_filter.mpr ⟨List.mem_append_right _ (List.mem_of_getElem? (i := 430) (by decide +kernel)), rfl⟩
theorem tb_431 : (Jvm.Cond.code ({ cls := "GraphWalker$Terms", name := "oneLess", desc := "(I)I" } : Jvm.MethodName) prog_4_method_9_code (1 : Nat) (Option.some Jvm.ClassFile.FieldType.int)) ∈ gw_T := List.mem_filter.mpr ⟨List.mem_append_right _ (List.mem_of_getElem? (i := 431) (by decide +kernel)), rfl⟩
theorem tb_432 : (Jvm.Cond.methodLink "GraphWalker$Terms" (46 : Nat) ({ cls := "java/lang/Math", name := "max", desc := "(II)I" } : Jvm.MethodName)) ∈ gw_all := List.mem_filter.mpr ⟨List.mem_append_right _ (List.mem_of_getElem? (i := 432) (by decide +kernel)), rfl⟩
theorem tb_433 : (Jvm.Cond.static ({ cls := "java/lang/Math", name := "max", desc := "(II)I" } : Jvm.MethodName)) ∈ gw_all := List.mem_filter.mpr ⟨List.mem_append_right _ (List.mem_of_getElem? (i := 433) (by decide +kernel)), rfl⟩
theorem tb_434 : (Jvm.Cond.code ({ cls := "java/lang/Math", name := "max", desc := "(II)I" } : Jvm.MethodName) prog_14_method_65_code (2 : Nat) (Option.some Jvm.ClassFile.FieldType.int)) ∈ gw_T := List.mem_filter.mpr ⟨List.mem_append_right _ (List.mem_of_getElem? (i := 434) (by decide +kernel)), rfl⟩
theorem tb_478 : (Jvm.Cond.methodLink "GraphWalker$Walk" (84 : Nat) ({ cls := "GraphWalker$Places", name := "clear", desc := "()V" } : Jvm.MethodName)) ∈ gw_all := List.mem_filter.mpr ⟨List.mem_append_right _ (List.mem_of_getElem? (i := 478) (by decide +kernel)), rfl⟩
theorem tb_479 : (Jvm.Cond.instanceMethod ({ cls := "GraphWalker$Places", name := "clear", desc := "()V" } : Jvm.MethodName)) ∈ gw_all := List.mem_filter.mpr ⟨List.mem_append_right _ (List.mem_of_getElem? (i := 479) (by decide +kernel)), rfl⟩
theorem tb_480 : (Jvm.Cond.selects "GraphWalker$Places" ({ cls := "GraphWalker$Places", name := "clear", desc := "()V" } : Jvm.MethodName) ({ cls := "GraphWalker$Places", name := "clear", desc := "()V" } : Jvm.MethodName)) ∈ gw_all := List.mem_filter.mpr ⟨List.mem_append_right _ (List.mem_of_getElem? (i := 480) (by decide +kernel)), rfl⟩
theorem tb_481 : (Jvm.Cond.code ({ cls := "GraphWalker$Places", name := "clear", desc := "()V" } : Jvm.MethodName) prog_2_method_2_code (1 : Nat) (Option.none : Option Jvm.ClassFile.FieldType)) ∈ gw_T := List.mem_filter.mpr ⟨List.mem_append_right _ (List.mem_of_getElem? (i := 481) (by decide +kernel)), rfl⟩
theorem tb_482 : (Jvm.Cond.methodLink "GraphWalker$Walk" (87 : Nat) ({ cls := "GraphWalker$Things", name := "clear", desc := "()V" } : Jvm.MethodName)) ∈ gw_all := List.mem_filter.mpr ⟨List.mem_append_right _ (List.mem_of_getElem? (i := 482) (by decide +kernel)), rfl⟩
theorem tb_483 : (Jvm.Cond.instanceMethod ({ cls := "GraphWalker$Things", name := "clear", desc := "()V" } : Jvm.MethodName)) ∈ gw_all := List.mem_filter.mpr ⟨List.mem_append_right _ (List.mem_of_getElem? (i := 483) (by decide +kernel)), rfl⟩
theorem tb_484 : (Jvm.Cond.selects "GraphWalker$Things" ({ cls := "GraphWalker$Things", name := "clear", desc := "()V" } : Jvm.MethodName) ({ cls := "GraphWalker$Things", name := "clear", desc := "()V" } : Jvm.MethodName)) ∈ gw_all := List.mem_filter.mpr ⟨List.mem_append_right _ (List.mem_of_getElem? (i := 484) (by decide +kernel)), rfl⟩
theorem tb_485 : (Jvm.Cond.code ({ cls := "GraphWalker$Things", name := "clear", desc := "()V" } : Jvm.MethodName) prog_5_method_2_code (1 : Nat) (Option.none : Option Jvm.ClassFile.FieldType)) ∈ gw_T := List.mem_filter.mpr ⟨List.mem_append_right _ (List.mem_of_getElem? (i := 485) (by decide +kernel)), rfl⟩
theorem tb_486 : (Jvm.Cond.methodLink "GraphWalker$Walk" (88 : Nat) ({ cls := "GraphWalker$Row", name := "clear", desc := "()V" } : Jvm.MethodName)) ∈ gw_all := List.mem_filter.mpr ⟨List.mem_append_right _ (List.mem_of_getElem? (i := 486) (by decide +kernel)), rfl⟩
theorem tb_487 : (Jvm.Cond.instanceMethod ({ cls := "GraphWalker$Row", name := "clear", desc := "()V" } : Jvm.MethodName)) ∈ gw_all := List.mem_filter.mpr ⟨List.mem_append_right _ (List.mem_of_getElem? (i := 487) (by decide +kernel)), rfl⟩
theorem tb_488 : (Jvm.Cond.selects "GraphWalker$Row" ({ cls := "GraphWalker$Row", name := "clear", desc := "()V" } : Jvm.MethodName) ({ cls := "GraphWalker$Row", name := "clear", desc := "()V" } : Jvm.MethodName)) ∈ gw_all := List.mem_filter.mpr ⟨List.mem_append_right _ (List.mem_of_getElem? (i := 488) (by decide +kernel)), rfl⟩
theorem tb_489 : (Jvm.Cond.code ({ cls := "GraphWalker$Row", name := "clear", desc := "()V" } : Jvm.MethodName) prog_3_method_2_code (1 : Nat) (Option.none : Option Jvm.ClassFile.FieldType)) ∈ gw_T := List.mem_filter.mpr ⟨List.mem_append_right _ (List.mem_of_getElem? (i := 489) (by decide +kernel)), rfl⟩
theorem tb_490 : (Jvm.Cond.methodLink "GraphWalker$Walk" (89 : Nat) ({ cls := "GraphWalker$Value", name := "beNumber", desc := "(J)V" } : Jvm.MethodName)) ∈ gw_all := List.mem_filter.mpr ⟨List.mem_append_right _ (List.mem_of_getElem? (i := 490) (by decide +kernel)), rfl⟩
theorem tb_491 : (Jvm.Cond.instanceMethod ({ cls := "GraphWalker$Value", name := "beNumber", desc := "(J)V" } : Jvm.MethodName)) ∈ gw_all := List.mem_filter.mpr ⟨List.mem_append_right _ (List.mem_of_getElem? (i := 491) (by decide +kernel)), rfl⟩
theorem tb_492 : (Jvm.Cond.selects "GraphWalker$Value" ({ cls := "GraphWalker$Value", name := "beNumber", desc := "(J)V" } : Jvm.MethodName) ({ cls := "GraphWalker$Value", name := "beNumber", desc := "(J)V" } : Jvm.MethodName)) ∈ gw_all := List.mem_filter.mpr ⟨List.mem_append_right _ (List.mem_of_getElem? (i := 492) (by decide +kernel)), rfl⟩
theorem tb_493 : (Jvm.Cond.code ({ cls := "GraphWalker$Value", name := "beNumber", desc := "(J)V" } : Jvm.MethodName) prog_6_method_2_code (3 : Nat) (Option.none : Option Jvm.ClassFile.FieldType)) ∈ gw_T := List.mem_filter.mpr ⟨List.mem_append_right _ (List.mem_of_getElem? (i := 493) (by decide +kernel)), rfl⟩
theorem tb_494 : (Jvm.Cond.methodLink "GraphWalker$Value" (25 : Nat) ({ cls := "GraphWalker$Value", name := "be", desc := "(IJII)V" } : Jvm.MethodName)) ∈ gw_all := List.mem_filter.mpr ⟨List.mem_append_right _ (List.mem_of_getElem? (i := 494) (by decide +kernel)), rfl⟩
theorem tb_495 : (Jvm.Cond.instanceMethod ({ cls := "GraphWalker$Value", name := "be", desc := "(IJII)V" } : Jvm.MethodName)) ∈ gw_all := List.mem_filter.mpr ⟨List.mem_append_right _ (List.mem_of_getElem? (i := 495) (by decide +kernel)), rfl⟩
theorem tb_496 : (Jvm.Cond.selects "GraphWalker$Value" ({ cls := "GraphWalker$Value", name := "be", desc := "(IJII)V" } : Jvm.MethodName) ({ cls := "GraphWalker$Value", name := "be", desc := "(IJII)V" } : Jvm.MethodName)) ∈ gw_all := List.mem_filter.mpr ⟨List.mem_append_right _ (List.mem_of_getElem? (i := 496) (by decide +kernel)), rfl⟩
theorem tb_497 : (Jvm.Cond.code ({ cls := "GraphWalker$Value", name := "be", desc := "(IJII)V" } : Jvm.MethodName) prog_6_method_5_code (6 : Nat) (Option.none : Option Jvm.ClassFile.FieldType)) ∈ gw_T := List.mem_filter.mpr ⟨List.mem_append_right _ (List.mem_of_getElem? (i := 497) (by decide +kernel)), rfl⟩
theorem tb_498 : (Jvm.Cond.methodLink "GraphWalker$Walk" (93 : Nat) ({ cls := "GraphWalker$Walk", name := "takeTerm", desc := "(II)V" } : Jvm.MethodName)) ∈ gw_all := List.mem_filter.mpr ⟨List.mem_append_right _ (List.mem_of_getElem? (i := 498) (by decide +kernel)), rfl⟩
theorem tb_500 : (Jvm.Cond.instanceMethod ({ cls := "GraphWalker$Walk", name := "takeTerm", desc := "(II)V" } : Jvm.MethodName)) ∈ gw_all := List.mem_filter.mpr ⟨List.mem_append_right _ (List.mem_of_getElem? (i := 500) (by decide +kernel)), rfl⟩
theorem tb_501 : (Jvm.Cond.code ({ cls := "GraphWalker$Walk", name := "takeTerm", desc := "(II)V" } : Jvm.MethodName) prog_7_method_7_code (3 : Nat) (Option.none : Option Jvm.ClassFile.FieldType)) ∈ gw_T := List.mem_filter.mpr ⟨List.mem_append_right _ (List.mem_of_getElem? (i := 501) (by decide +kernel)), rfl⟩
theorem tb_519 : (Jvm.Cond.methodLink "GraphWalker$Walk" (97 : Nat) ({ cls := "GraphWalker$Walk", name := "sweepUnreached", desc := "()I" } : Jvm.MethodName)) ∈ gw_all := List.mem_filter.mpr ⟨List.mem_append_right _ (List.mem_of_getElem? (i := 519) (by decide +kernel)), rfl⟩
theorem tb_520 : (Jvm.Cond.instanceMethod ({ cls := "GraphWalker$Walk", name := "sweepUnreached", desc := "()I" } : Jvm.MethodName)) ∈ gw_all := List.mem_filter.mpr ⟨List.mem_append_right _ (List.mem_of_getElem? (i := 520) (by decide +kernel)), rfl⟩
theorem tb_521 : (Jvm.Cond.selects "GraphWalker$Walk" ({ cls := "GraphWalker$Walk", name := "sweepUnreached", desc := "()I" } : Jvm.MethodName) ({ cls := "GraphWalker$Walk", name := "sweepUnreached", desc := "()I" } : Jvm.MethodName)) ∈ gw_all := List.mem_filter.mpr ⟨List.mem_append_right _ (List.mem_of_getElem? (i := 521) (by decide +kernel)), rfl⟩
theorem tb_522 : (Jvm.Cond.code ({ cls := "GraphWalker$Walk", name := "sweepUnreached", desc := "()I" } : Jvm.MethodName) prog_7_method_24_code (2 : Nat) (Option.some Jvm.ClassFile.FieldType.int)) ∈ gw_T := List.mem_filter.mpr ⟨List.mem_append_right _ (List.mem_of_getElem? (i := 522) (by decide +kernel)), rfl⟩
theorem tb_523 : (Jvm.Cond.methodLink "GraphWalker$Walk" (259 : Nat) ({ cls := "GraphWalker$Things", name := "forgetReached", desc := "()V" } : Jvm.MethodName)) ∈ gw_all := List.mem_filter.mpr ⟨List.mem_append_right _ (List.mem_of_getElem? (i := 523) (by decide +kernel)), rfl⟩
theorem tb_524 : (Jvm.Cond.instanceMethod ({ cls := "GraphWalker$Things", name := "forgetReached", desc := "()V" } : Jvm.MethodName)) ∈ gw_all := List.mem_filter.mpr ⟨List.mem_append_right _ (List.mem_of_getElem? (i := 524) (by decide +kernel)), rfl⟩
theorem tb_525 : (Jvm.Cond.selects "GraphWalker$Things" ({ cls := "GraphWalker$Things", name := "forgetReached", desc := "()V" } : Jvm.MethodName) ({ cls := "GraphWalker$Things", name := "forgetReached", desc := "()V" } : Jvm.MethodName)) ∈ gw_all := List.mem_filter.mpr ⟨List.mem_append_right _ (List.mem_of_getElem? (i := 525) (by decide +kernel)), rfl⟩
theorem tb_526 : (Jvm.Cond.code ({ cls := "GraphWalker$Things", name := "forgetReached", desc := "()V" } : Jvm.MethodName) prog_5_method_18_code (1 : Nat) (Option.none : Option Jvm.ClassFile.FieldType)) ∈ gw_T := List.mem_filter.mpr ⟨List.mem_append_right _ (List.mem_of_getElem? (i := 526) (by decide +kernel)), rfl⟩
theorem tb_527 : (Jvm.Cond.methodLink "GraphWalker$Walk" (262 : Nat) ({ cls := "GraphWalker$Walk", name := "reachFromHand", desc := "()V" } : Jvm.MethodName)) ∈ gw_all := List.mem_filter.mpr ⟨List.mem_append_right _ (List.mem_of_getElem? (i := 527) (by decide +kernel)), rfl⟩
theorem tb_529 : (Jvm.Cond.instanceMethod ({ cls := "GraphWalker$Walk", name := "reachFromHand", desc := "()V" } : Jvm.MethodName)) ∈ gw_all := List.mem_filter.mpr ⟨List.mem_append_right _ (List.mem_of_getElem? (i := 529) (by decide +kernel)), rfl⟩
theorem tb_530 : (Jvm.Cond.code ({ cls := "GraphWalker$Walk", name := "reachFromHand", desc := "()V" } : Jvm.MethodName) prog_7_method_25_code (1 : Nat) (Option.none : Option Jvm.ClassFile.FieldType)) ∈ gw_T := List.mem_filter.mpr ⟨List.mem_append_right _ (List.mem_of_getElem? (i := 530) (by decide +kernel)), rfl⟩
theorem tb_531 : (Jvm.Cond.methodLink "GraphWalker$Walk" (280 : Nat) ({ cls := "GraphWalker$Walk", name := "reachPlaces", desc := "(I)V" } : Jvm.MethodName)) ∈ gw_all := List.mem_filter.mpr ⟨List.mem_append_right _ (List.mem_of_getElem? (i := 531) (by decide +kernel)), rfl⟩
theorem tb_533 : (Jvm.Cond.instanceMethod ({ cls := "GraphWalker$Walk", name := "reachPlaces", desc := "(I)V" } : Jvm.MethodName)) ∈ gw_all := List.mem_filter.mpr ⟨List.mem_append_right _ (List.mem_of_getElem? (i := 533) (by decide +kernel)), rfl⟩
theorem tb_534 : (Jvm.Cond.code ({ cls := "GraphWalker$Walk", name := "reachPlaces", desc := "(I)V" } : Jvm.MethodName) prog_7_method_29_code (4 : Nat) (Option.none : Option Jvm.ClassFile.FieldType)) ∈ gw_T := List.mem_filter.mpr ⟨List.mem_append_right _ (List.mem_of_getElem? (i := 534) (by decide +kernel)), rfl⟩
theorem tb_535 : (Jvm.Cond.methodLink "GraphWalker$Walk" (299 : Nat) ({ cls := "GraphWalker$Places", name := "mark", desc := "(II)Z" } : Jvm.MethodName)) ∈ gw_all := List.mem_filter.mpr ⟨List.mem_append_right _ (List.mem_of_getElem? (i := 535) (by decide +kernel)), rfl⟩
theorem tb_536 : (Jvm.Cond.instanceMethod ({ cls := "GraphWalker$Places", name := "mark", desc := "(II)Z" } : Jvm.MethodName)) ∈ gw_all := List.mem_filter.mpr ⟨List.mem_append_right _ (List.mem_of_getElem? (i := 536) (by decide +kernel)), rfl⟩
theorem tb_537 : (Jvm.Cond.selects "GraphWalker$Places" ({ cls := "GraphWalker$Places", name := "mark", desc := "(II)Z" } : Jvm.MethodName) ({ cls := "GraphWalker$Places", name := "mark", desc := "(II)Z" } : Jvm.MethodName)) ∈ gw_all := List.mem_filter.mpr ⟨List.mem_append_right _ (List.mem_of_getElem? (i := 537) (by decide +kernel)), rfl⟩
theorem tb_538 : (Jvm.Cond.code ({ cls := "GraphWalker$Places", name := "mark", desc := "(II)Z" } : Jvm.MethodName) prog_2_method_9_code (3 : Nat) (Option.some Jvm.ClassFile.FieldType.boolean)) ∈ gw_T := List.mem_filter.mpr ⟨List.mem_append_right _ (List.mem_of_getElem? (i := 538) (by decide +kernel)), rfl⟩
theorem tb_539 : (Jvm.Cond.methodLink "GraphWalker$Walk" (303 : Nat) ({ cls := "GraphWalker$Places", name := "heldBy", desc := "(I)I" } : Jvm.MethodName)) ∈ gw_all := List.mem_filter.mpr ⟨List.mem_append_right _ (List.mem_of_getElem? (i := 539) (by decide +kernel)), rfl⟩
theorem tb_540 : (Jvm.Cond.instanceMethod ({ cls := "GraphWalker$Places", name := "heldBy", desc := "(I)I" } : Jvm.MethodName)) ∈ gw_all := List.mem_filter.mpr ⟨List.mem_append_right _ (List.mem_of_getElem? (i := 540) (by decide +kernel)), rfl⟩
theorem tb_541 : (Jvm.Cond.selects "GraphWalker$Places" ({ cls := "GraphWalker$Places", name := "heldBy", desc := "(I)I" } : Jvm.MethodName) ({ cls := "GraphWalker$Places", name := "heldBy", desc := "(I)I" } : Jvm.MethodName)) ∈ gw_all := List.mem_filter.mpr ⟨List.mem_append_right _ (List.mem_of_getElem? (i := 541) (by decide +kernel)), rfl⟩
theorem tb_542 : (Jvm.Cond.code ({ cls := "GraphWalker$Places", name := "heldBy", desc := "(I)I" } : Jvm.MethodName) prog_2_method_6_code (2 : Nat) (Option.some Jvm.ClassFile.FieldType.int)) ∈ gw_T := List.mem_filter.mpr ⟨List.mem_append_right _ (List.mem_of_getElem? (i := 542) (by decide +kernel)), rfl⟩
theorem tb_543 : (Jvm.Cond.methodLink "GraphWalker$Places" (25 : Nat) ({ cls := "GraphWalker$Places", name := "has", desc := "(I)Z" } : Jvm.MethodName)) ∈ gw_all := List.mem_filter.mpr ⟨List.mem_append_right _ (List.mem_of_getElem? (i := 543) (by decide +kernel)), rfl⟩
theorem tb_544 : (Jvm.Cond.instanceMethod ({ cls := "GraphWalker$Places", name := "has", desc := "(I)Z" } : Jvm.MethodName)) ∈ gw_all := List.mem_filter.mpr ⟨List.mem_append_right _ (List.mem_of_getElem? (i := 544) (by decide +kernel)), rfl⟩
theorem tb_545 : (Jvm.Cond.selects "GraphWalker$Places" ({ cls := "GraphWalker$Places", name := "has", desc := "(I)Z" } : Jvm.MethodName) ({ cls := "GraphWalker$Places", name := "has", desc := "(I)Z" } : Jvm.MethodName)) ∈ gw_all := List.mem_filter.mpr ⟨List.mem_append_right _ (List.mem_of_getElem? (i := 545) (by decide +kernel)), rfl⟩
theorem tb_546 : (Jvm.Cond.code ({ cls := "GraphWalker$Places", name := "has", desc := "(I)Z" } : Jvm.MethodName) prog_2_method_3_code (2 : Nat) (Option.some Jvm.ClassFile.FieldType.boolean)) ∈ gw_T := List.mem_filter.mpr ⟨List.mem_append_right _ (List.mem_of_getElem? (i := 546) (by decide +kernel)), rfl⟩
theorem tb_547 : (Jvm.Cond.methodLink "GraphWalker$Walk" (287 : Nat) ({ cls := "GraphWalker$Things", name := "reach", desc := "(II)V" } : Jvm.MethodName)) ∈ gw_all := List.mem_filter.mpr ⟨List.mem_append_right _ (List.mem_of_getElem? (i := 547) (by decide +kernel)), rfl⟩
theorem tb_548 : (Jvm.Cond.instanceMethod ({ cls := "GraphWalker$Things", name := "reach", desc := "(II)V" } : Jvm.MethodName)) ∈ gw_all := List.mem_filter.mpr ⟨List.mem_append_right _ (List.mem_of_getElem? (i := 548) (by decide +kernel)), rfl⟩
theorem tb_549 : (Jvm.Cond.selects "GraphWalker$Things" ({ cls := "GraphWalker$Things", name := "reach", desc := "(II)V" } : Jvm.MethodName) ({ cls := "GraphWalker$Things", name := "reach", desc := "(II)V" } : Jvm.MethodName)) ∈ gw_all := List.mem_filter.mpr ⟨List.mem_append_right _ (List.mem_of_getElem? (i := 549) (by decide +kernel)), rfl⟩
theorem tb_550 : (Jvm.Cond.code ({ cls := "GraphWalker$Things", name := "reach", desc := "(II)V" } : Jvm.MethodName) prog_5_method_19_code (4 : Nat) (Option.none : Option Jvm.ClassFile.FieldType)) ∈ gw_T := List.mem_filter.mpr ⟨List.mem_append_right _ (List.mem_of_getElem? (i := 550) (by decide +kernel)), rfl⟩
theorem tb_551 : (Jvm.Cond.methodLink "GraphWalker$Walk" (306 : Nat) ({ cls := "GraphWalker$Places", name := "outerOf", desc := "(I)I" } : Jvm.MethodName)) ∈ gw_all := List.mem_filter.mpr ⟨List.mem_append_right _ (List.mem_of_getElem? (i := 551) (by decide +kernel)), rfl⟩
theorem tb_552 : (Jvm.Cond.instanceMethod ({ cls := "GraphWalker$Places", name := "outerOf", desc := "(I)I" } : Jvm.MethodName)) ∈ gw_all := List.mem_filter.mpr ⟨List.mem_append_right _ (List.mem_of_getElem? (i := 552) (by decide +kernel)), rfl⟩
theorem tb_553 : (Jvm.Cond.selects "GraphWalker$Places" ({ cls := "GraphWalker$Places", name := "outerOf", desc := "(I)I" } : Jvm.MethodName) ({ cls := "GraphWalker$Places", name := "outerOf", desc := "(I)I" } : Jvm.MethodName)) ∈ gw_all := List.mem_filter.mpr ⟨List.mem_append_right _ (List.mem_of_getElem? (i := 553) (by decide +kernel)), rfl⟩
theorem tb_554 : (Jvm.Cond.code ({ cls := "GraphWalker$Places", name := "outerOf", desc := "(I)I" } : Jvm.MethodName) prog_2_method_7_code (2 : Nat) (Option.some Jvm.ClassFile.FieldType.int)) ∈ gw_T := List.mem_filter.mpr ⟨List.mem_append_right _ (List.mem_of_getElem? (i := 554) (by decide +kernel)), rfl⟩
theorem tb_555 : (Jvm.Cond.methodLink "GraphWalker$Walk" (283 : Nat) ({ cls := "GraphWalker$Walk", name := "reachOfValue", desc := "(III)V" } : Jvm.MethodName)) ∈ gw_all := List.mem_filter.mpr ⟨List.mem_append_right _ (List.mem_of_getElem? (i := 555) (by decide +kernel)), rfl⟩
theorem tb_557 : (Jvm.Cond.instanceMethod ({ cls := "GraphWalker$Walk", name := "reachOfValue", desc := "(III)V" } : Jvm.MethodName)) ∈ gw_all := List.mem_filter.mpr ⟨List.mem_append_right _ (List.mem_of_getElem? (i := 557) (by decide +kernel)), rfl⟩
theorem tb_558 : (Jvm.Cond.code ({ cls := "GraphWalker$Walk", name := "reachOfValue", desc := "(III)V" } : Jvm.MethodName) prog_7_method_28_code (4 : Nat) (Option.none : Option Jvm.ClassFile.FieldType)) ∈ gw_T := List.mem_filter.mpr ⟨List.mem_append_right _ (List.mem_of_getElem? (i := 558) (by decide +kernel)), rfl⟩
theorem tb_559 : (Jvm.Cond.methodLink "GraphWalker$Walk" (265 : Nat) ({ cls := "GraphWalker$Walk", name := "reachFromRow", desc := "()V" } : Jvm.MethodName)) ∈ gw_all := List.mem_filter.mpr ⟨List.mem_append_right _ (List.mem_of_getElem? (i := 559) (by decide +kernel)), rfl⟩
theorem tb_561 : (Jvm.Cond.instanceMethod ({ cls := "GraphWalker$Walk", name := "reachFromRow", desc := "()V" } : Jvm.MethodName)) ∈ gw_all := List.mem_filter.mpr ⟨List.mem_append_right _ (List.mem_of_getElem? (i := 561) (by decide +kernel)), rfl⟩
theorem tb_562 : (Jvm.Cond.code ({ cls := "GraphWalker$Walk", name := "reachFromRow", desc := "()V" } : Jvm.MethodName) prog_7_method_26_code (2 : Nat) (Option.none : Option Jvm.ClassFile.FieldType)) ∈ gw_T := List.mem_filter.mpr ⟨List.mem_append_right _ (List.mem_of_getElem? (i := 562) (by decide +kernel)), rfl⟩
theorem tb_563 : (Jvm.Cond.methodLink "GraphWalker$Walk" (124 : Nat) ({ cls := "GraphWalker$Row", name := "kindOf", desc := "(I)I" } : Jvm.MethodName)) ∈ gw_all := List.mem_filter.mpr ⟨List.mem_append_right _ (List.mem_of_getElem? (i := 563) (by decide +kernel)), rfl⟩
theorem tb_564 : (Jvm.Cond.instanceMethod ({ cls := "GraphWalker$Row", name := "kindOf", desc := "(I)I" } : Jvm.MethodName)) ∈ gw_all := List.mem_filter.mpr ⟨List.mem_append_right _ (List.mem_of_getElem? (i := 564) (by decide +kernel)), rfl⟩
theorem tb_565 : (Jvm.Cond.selects "GraphWalker$Row" ({ cls := "GraphWalker$Row", name := "kindOf", desc := "(I)I" } : Jvm.MethodName) ({ cls := "GraphWalker$Row", name := "kindOf", desc := "(I)I" } : Jvm.MethodName)) ∈ gw_all := List.mem_filter.mpr ⟨List.mem_append_right _ (List.mem_of_getElem? (i := 565) (by decide +kernel)), rfl⟩
theorem tb_566 : (Jvm.Cond.code ({ cls := "GraphWalker$Row", name := "kindOf", desc := "(I)I" } : Jvm.MethodName) prog_3_method_8_code (2 : Nat) (Option.some Jvm.ClassFile.FieldType.int)) ∈ gw_T := List.mem_filter.mpr ⟨List.mem_append_right _ (List.mem_of_getElem? (i := 566) (by decide +kernel)), rfl⟩
theorem tb_567 : (Jvm.Cond.methodLink "GraphWalker$Row" (32 : Nat) ({ cls := "GraphWalker$Row", name := "has", desc := "(I)Z" } : Jvm.MethodName)) ∈ gw_all := List.mem_filter.mpr ⟨List.mem_append_right _ (List.mem_of_getElem? (i := 567) (by decide +kernel)), rfl⟩
theorem tb_568 : (Jvm.Cond.instanceMethod ({ cls := "GraphWalker$Row", name := "has", desc := "(I)Z" } : Jvm.MethodName)) ∈ gw_all := List.mem_filter.mpr ⟨List.mem_append_right _ (List.mem_of_getElem? (i := 568) (by decide +kernel)), rfl⟩
theorem tb_569 : (Jvm.Cond.selects "GraphWalker$Row" ({ cls := "GraphWalker$Row", name := "has", desc := "(I)Z" } : Jvm.MethodName) ({ cls := "GraphWalker$Row", name := "has", desc := "(I)Z" } : Jvm.MethodName)) ∈ gw_all := List.mem_filter.mpr ⟨List.mem_append_right _ (List.mem_of_getElem? (i := 569) (by decide +kernel)), rfl⟩
theorem tb_570 : (Jvm.Cond.code ({ cls := "GraphWalker$Row", name := "has", desc := "(I)Z" } : Jvm.MethodName) prog_3_method_3_code (2 : Nat) (Option.some Jvm.ClassFile.FieldType.boolean)) ∈ gw_T := List.mem_filter.mpr ⟨List.mem_append_right _ (List.mem_of_getElem? (i := 570) (by decide +kernel)), rfl⟩
theorem tb_571 : (Jvm.Cond.methodLink "GraphWalker$Walk" (128 : Nat) ({ cls := "GraphWalker$Row", name := "firstOf", desc := "(I)I" } : Jvm.MethodName)) ∈ gw_all := List.mem_filter.mpr ⟨List.mem_append_right _ (List.mem_of_getElem? (i := 571) (by decide +kernel)), rfl⟩
theorem tb_572 : (Jvm.Cond.instanceMethod ({ cls := "GraphWalker$Row", name := "firstOf", desc := "(I)I" } : Jvm.MethodName)) ∈ gw_all := List.mem_filter.mpr ⟨List.mem_append_right _ (List.mem_of_getElem? (i := 572) (by decide +kernel)), rfl⟩
theorem tb_573 : (Jvm.Cond.selects "GraphWalker$Row" ({ cls := "GraphWalker$Row", name := "firstOf", desc := "(I)I" } : Jvm.MethodName) ({ cls := "GraphWalker$Row", name := "firstOf", desc := "(I)I" } : Jvm.MethodName)) ∈ gw_all := List.mem_filter.mpr ⟨List.mem_append_right _ (List.mem_of_getElem? (i := 573) (by decide +kernel)), rfl⟩
theorem tb_574 : (Jvm.Cond.code ({ cls := "GraphWalker$Row", name := "firstOf", desc := "(I)I" } : Jvm.MethodName) prog_3_method_9_code (2 : Nat) (Option.some Jvm.ClassFile.FieldType.int)) ∈ gw_T := List.mem_filter.mpr ⟨List.mem_append_right _ (List.mem_of_getElem? (i := 574) (by decide +kernel)), rfl⟩
theorem tb_575 : (Jvm.Cond.methodLink "GraphWalker$Walk" (224 : Nat) ({ cls := "GraphWalker$Row", name := "secondOf", desc := "(I)I" } : Jvm.MethodName)) ∈ gw_all := List.mem_filter.mpr ⟨List.mem_append_right _ (List.mem_of_getElem? (i := 575) (by decide +kernel)), rfl⟩
theorem tb_576 : (Jvm.Cond.instanceMethod ({ cls := "GraphWalker$Row", name := "secondOf", desc := "(I)I" } : Jvm.MethodName)) ∈ gw_all := List.mem_filter.mpr ⟨List.mem_append_right _ (List.mem_of_getElem? (i := 576) (by decide +kernel)), rfl⟩
theorem tb_577 : (Jvm.Cond.selects "GraphWalker$Row" ({ cls := "GraphWalker$Row", name := "secondOf", desc := "(I)I" } : Jvm.MethodName) ({ cls := "GraphWalker$Row", name := "secondOf", desc := "(I)I" } : Jvm.MethodName)) ∈ gw_all := List.mem_filter.mpr ⟨List.mem_append_right _ (List.mem_of_getElem? (i := 577) (by decide +kernel)), rfl⟩
theorem tb_578 : (Jvm.Cond.code ({ cls := "GraphWalker$Row", name := "secondOf", desc := "(I)I" } : Jvm.MethodName) prog_3_method_10_code (2 : Nat) (Option.some Jvm.ClassFile.FieldType.int)) ∈ gw_T := List.mem_filter.mpr ⟨List.mem_append_right _ (List.mem_of_getElem? (i := 578) (by decide +kernel)), rfl⟩
theorem tb_579 : (Jvm.Cond.methodLink "GraphWalker$Walk" (271 : Nat) ({ cls := "GraphWalker$Things", name := "reachedAt", desc := "(I)I" } : Jvm.MethodName)) ∈ gw_all := List.mem_filter.mpr ⟨List.mem_append_right _ (List.mem_of_getElem? (i := 579) (by decide +kernel)), rfl⟩
theorem tb_580 : (Jvm.Cond.instanceMethod ({ cls := "GraphWalker$Things", name := "reachedAt", desc := "(I)I" } : Jvm.MethodName)) ∈ gw_all := List.mem_filter.mpr ⟨List.mem_append_right _ (List.mem_of_getElem? (i := 580) (by decide +kernel)), rfl⟩
theorem tb_581 : (Jvm.Cond.selects "GraphWalker$Things" ({ cls := "GraphWalker$Things", name := "reachedAt", desc := "(I)I" } : Jvm.MethodName) ({ cls := "GraphWalker$Things", name := "reachedAt", desc := "(I)I" } : Jvm.MethodName)) ∈ gw_all := List.mem_filter.mpr ⟨List.mem_append_right _ (List.mem_of_getElem? (i := 581) (by decide +kernel)), rfl⟩
theorem tb_582 : (Jvm.Cond.code ({ cls := "GraphWalker$Things", name := "reachedAt", desc := "(I)I" } : Jvm.MethodName) prog_5_method_20_code (2 : Nat) (Option.some Jvm.ClassFile.FieldType.int)) ∈ gw_T := List.mem_filter.mpr ⟨List.mem_append_right _ (List.mem_of_getElem? (i := 582) (by decide +kernel)), rfl⟩
theorem tb_583 : (Jvm.Cond.methodLink "GraphWalker$Walk" (274 : Nat) ({ cls := "GraphWalker$Walk", name := "reachFromThing", desc := "(I)V" } : Jvm.MethodName)) ∈ gw_all := List.mem_filter.mpr ⟨List.mem_append_right _ (List.mem_of_getElem? (i := 583) (by decide +kernel)), rfl⟩
theorem tb_585 : (Jvm.Cond.instanceMethod ({ cls := "GraphWalker$Walk", name := "reachFromThing", desc := "(I)V" } : Jvm.MethodName)) ∈ gw_all := List.mem_filter.mpr ⟨List.mem_append_right _ (List.mem_of_getElem? (i := 585) (by decide +kernel)), rfl⟩
theorem tb_586 : (Jvm.Cond.code ({ cls := "GraphWalker$Walk", name := "reachFromThing", desc := "(I)V" } : Jvm.MethodName) prog_7_method_27_code (3 : Nat) (Option.none : Option Jvm.ClassFile.FieldType)) ∈ gw_T := List.mem_filter.mpr ⟨List.mem_append_right _ (List.mem_of_getElem? (i := 586) (by decide +kernel)), rfl⟩
theorem tb_587 : (Jvm.Cond.methodLink "GraphWalker$Walk" (187 : Nat) ({ cls := "GraphWalker$Things", name := "stateOf", desc := "(I)I" } : Jvm.MethodName)) ∈ gw_all := List.mem_filter.mpr ⟨List.mem_append_right _ (List.mem_of_getElem? (i := 587) (by decide +kernel)), rfl⟩
theorem tb_588 : (Jvm.Cond.instanceMethod ({ cls := "GraphWalker$Things", name := "stateOf", desc := "(I)I" } : Jvm.MethodName)) ∈ gw_all := List.mem_filter.mpr ⟨List.mem_append_right _ (List.mem_of_getElem? (i := 588) (by decide +kernel)), rfl⟩
theorem tb_589 : (Jvm.Cond.selects "GraphWalker$Things" ({ cls := "GraphWalker$Things", name := "stateOf", desc := "(I)I" } : Jvm.MethodName) ({ cls := "GraphWalker$Things", name := "stateOf", desc := "(I)I" } : Jvm.MethodName)) ∈ gw_all := List.mem_filter.mpr ⟨List.mem_append_right _ (List.mem_of_getElem? (i := 589) (by decide +kernel)), rfl⟩
theorem tb_590 : (Jvm.Cond.code ({ cls := "GraphWalker$Things", name := "stateOf", desc := "(I)I" } : Jvm.MethodName) prog_5_method_6_code (2 : Nat) (Option.some Jvm.ClassFile.FieldType.int)) ∈ gw_T := List.mem_filter.mpr ⟨List.mem_append_right _ (List.mem_of_getElem? (i := 590) (by decide +kernel)), rfl⟩
theorem tb_591 : (Jvm.Cond.methodLink "GraphWalker$Things" (59 : Nat) ({ cls := "GraphWalker$Things", name := "has", desc := "(I)Z" } : Jvm.MethodName)) ∈ gw_all := List.mem_filter.mpr ⟨List.mem_append_right _ (List.mem_of_getElem? (i := 591) (by decide +kernel)), rfl⟩
theorem tb_592 : (Jvm.Cond.instanceMethod ({ cls := "GraphWalker$Things", name := "has", desc := "(I)Z" } : Jvm.MethodName)) ∈ gw_all := List.mem_filter.mpr ⟨List.mem_append_right _ (List.mem_of_getElem? (i := 592) (by decide +kernel)), rfl⟩
theorem tb_593 : (Jvm.Cond.selects "GraphWalker$Things" ({ cls := "GraphWalker$Things", name := "has", desc := "(I)Z" } : Jvm.MethodName) ({ cls := "GraphWalker$Things", name := "has", desc := "(I)Z" } : Jvm.MethodName)) ∈ gw_all := List.mem_filter.mpr ⟨List.mem_append_right _ (List.mem_of_getElem? (i := 593) (by decide +kernel)), rfl⟩
theorem tb_594 : (Jvm.Cond.code ({ cls := "GraphWalker$Things", name := "has", desc := "(I)Z" } : Jvm.MethodName) prog_5_method_3_code (2 : Nat) (Option.some Jvm.ClassFile.FieldType.boolean)) ∈ gw_T := List.mem_filter.mpr ⟨List.mem_append_right _ (List.mem_of_getElem? (i := 594) (by decide +kernel)), rfl⟩
theorem tb_595 : (Jvm.Cond.methodLink "GraphWalker$Walk" (212 : Nat) ({ cls := "GraphWalker$Things", name := "placesOf", desc := "(I)I" } : Jvm.MethodName)) ∈ gw_all := List.mem_filter.mpr ⟨List.mem_append_right _ (List.mem_of_getElem? (i := 595) (by decide +kernel)), rfl⟩
theorem tb_596 : (Jvm.Cond.instanceMethod ({ cls := "GraphWalker$Things", name := "placesOf", desc := "(I)I" } : Jvm.MethodName)) ∈ gw_all := List.mem_filter.mpr ⟨List.mem_append_right _ (List.mem_of_getElem? (i := 596) (by decide +kernel)), rfl⟩
theorem tb_597 : (Jvm.Cond.selects "GraphWalker$Things" ({ cls := "GraphWalker$Things", name := "placesOf", desc := "(I)I" } : Jvm.MethodName) ({ cls := "GraphWalker$Things", name := "placesOf", desc := "(I)I" } : Jvm.MethodName)) ∈ gw_all := List.mem_filter.mpr ⟨List.mem_append_right _ (List.mem_of_getElem? (i := 597) (by decide +kernel)), rfl⟩
theorem tb_598 : (Jvm.Cond.code ({ cls := "GraphWalker$Things", name := "placesOf", desc := "(I)I" } : Jvm.MethodName) prog_5_method_8_code (2 : Nat) (Option.some Jvm.ClassFile.FieldType.int)) ∈ gw_T := List.mem_filter.mpr ⟨List.mem_append_right _ (List.mem_of_getElem? (i := 598) (by decide +kernel)), rfl⟩
theorem tb_599 : (Jvm.Cond.methodLink "GraphWalker$Walk" (290 : Nat) ({ cls := "GraphWalker$Things", name := "valueSortOf", desc := "(I)I" } : Jvm.MethodName)) ∈ gw_all := List.mem_filter.mpr ⟨List.mem_append_right _ (List.mem_of_getElem? (i := 599) (by decide +kernel)), rfl⟩
theorem tb_600 : (Jvm.Cond.instanceMethod ({ cls := "GraphWalker$Things", name := "valueSortOf", desc := "(I)I" } : Jvm.MethodName)) ∈ gw_all := List.mem_filter.mpr ⟨List.mem_append_right _ (List.mem_of_getElem? (i := 600) (by decide +kernel)), rfl⟩
theorem tb_601 : (Jvm.Cond.selects "GraphWalker$Things" ({ cls := "GraphWalker$Things", name := "valueSortOf", desc := "(I)I" } : Jvm.MethodName) ({ cls := "GraphWalker$Things", name := "valueSortOf", desc := "(I)I" } : Jvm.MethodName)) ∈ gw_all := List.mem_filter.mpr ⟨List.mem_append_right _ (List.mem_of_getElem? (i := 601) (by decide +kernel)), rfl⟩
theorem tb_602 : (Jvm.Cond.code ({ cls := "GraphWalker$Things", name := "valueSortOf", desc := "(I)I" } : Jvm.MethodName) prog_5_method_15_code (2 : Nat) (Option.some Jvm.ClassFile.FieldType.int)) ∈ gw_T := List.mem_filter.mpr ⟨List.mem_append_right _ (List.mem_of_getElem? (i := 602) (by decide +kernel)), rfl⟩
theorem tb_603 : (Jvm.Cond.methodLink "GraphWalker$Walk" (293 : Nat) ({ cls := "GraphWalker$Things", name := "valueFirstOf", desc := "(I)I" } : Jvm.MethodName)) ∈ gw_all := List.mem_filter.mpr ⟨List.mem_append_right _ (List.mem_of_getElem? (i := 603) (by decide +kernel)), rfl⟩
theorem tb_604 : (Jvm.Cond.instanceMethod ({ cls := "GraphWalker$Things", name := "valueFirstOf", desc := "(I)I" } : Jvm.MethodName)) ∈ gw_all := List.mem_filter.mpr ⟨List.mem_append_right _ (List.mem_of_getElem? (i := 604) (by decide +kernel)), rfl⟩
theorem tb_605 : (Jvm.Cond.selects "GraphWalker$Things" ({ cls := "GraphWalker$Things", name := "valueFirstOf", desc := "(I)I" } : Jvm.MethodName) ({ cls := "GraphWalker$Things", name := "valueFirstOf", desc := "(I)I" } : Jvm.MethodName)) ∈ gw_all := List.mem_filter.mpr ⟨List.mem_append_right _ (List.mem_of_getElem? (i := 605) (by decide +kernel)), rfl⟩
theorem tb_606 : (Jvm.Cond.code ({ cls := "GraphWalker$Things", name := "valueFirstOf", desc := "(I)I" } : Jvm.MethodName) prog_5_method_16_code (2 : Nat) (Option.some Jvm.ClassFile.FieldType.int)) ∈ gw_T := List.mem_filter.mpr ⟨List.mem_append_right _ (List.mem_of_getElem? (i := 606) (by decide +kernel)), rfl⟩
theorem tb_607 : (Jvm.Cond.methodLink "GraphWalker$Walk" (296 : Nat) ({ cls := "GraphWalker$Things", name := "valueSecondOf", desc := "(I)I" } : Jvm.MethodName)) ∈ gw_all := List.mem_filter.mpr ⟨List.mem_append_right _ (List.mem_of_getElem? (i := 607) (by decide +kernel)), rfl⟩
theorem tb_608 : (Jvm.Cond.instanceMethod ({ cls := "GraphWalker$Things", name := "valueSecondOf", desc := "(I)I" } : Jvm.MethodName)) ∈ gw_all := List.mem_filter.mpr ⟨List.mem_append_right _ (List.mem_of_getElem? (i := 608) (by decide +kernel)), rfl⟩
theorem tb_609 : (Jvm.Cond.selects "GraphWalker$Things" ({ cls := "GraphWalker$Things", name := "valueSecondOf", desc := "(I)I" } : Jvm.MethodName) ({ cls := "GraphWalker$Things", name := "valueSecondOf", desc := "(I)I" } : Jvm.MethodName)) ∈ gw_all := List.mem_filter.mpr ⟨List.mem_append_right _ (List.mem_of_getElem? (i := 609) (by decide +kernel)), rfl⟩
theorem tb_610 : (Jvm.Cond.code ({ cls := "GraphWalker$Things", name := "valueSecondOf", desc := "(I)I" } : Jvm.MethodName) prog_5_method_17_code (2 : Nat) (Option.some Jvm.ClassFile.FieldType.int)) ∈ gw_T := List.mem_filter.mpr ⟨List.mem_append_right _ (List.mem_of_getElem? (i := 610) (by decide +kernel)), rfl⟩
theorem tb_611 : (Jvm.Cond.methodLink "GraphWalker$Walk" (277 : Nat) ({ cls := "GraphWalker$Things", name := "keepReached", desc := "(I)I" } : Jvm.MethodName)) ∈ gw_all := List.mem_filter.mpr ⟨List.mem_append_right _ (List.mem_of_getElem? (i := 611) (by decide +kernel)), rfl⟩
theorem tb_612 : (Jvm.Cond.instanceMethod ({ cls := "GraphWalker$Things", name := "keepReached", desc := "(I)I" } : Jvm.MethodName)) ∈ gw_all := List.mem_filter.mpr ⟨List.mem_append_right _ (List.mem_of_getElem? (i := 612) (by decide +kernel)), rfl⟩
theorem tb_613 : (Jvm.Cond.selects "GraphWalker$Things" ({ cls := "GraphWalker$Things", name := "keepReached", desc := "(I)I" } : Jvm.MethodName) ({ cls := "GraphWalker$Things", name := "keepReached", desc := "(I)I" } : Jvm.MethodName)) ∈ gw_all := List.mem_filter.mpr ⟨List.mem_append_right _ (List.mem_of_getElem? (i := 613) (by decide +kernel)), rfl⟩
theorem tb_614 : (Jvm.Cond.code ({ cls := "GraphWalker$Things", name := "keepReached", desc := "(I)I" } : Jvm.MethodName) prog_5_method_21_code (6 : Nat) (Option.some Jvm.ClassFile.FieldType.int)) ∈ gw_T := List.mem_filter.mpr ⟨List.mem_append_right _ (List.mem_of_getElem? (i := 614) (by decide +kernel)), rfl⟩
theorem tb_615 : (Jvm.Cond.methodLink "GraphWalker$Walk" (101 : Nat) ({ cls := "GraphWalker$Walk", name := "stepWithTerm", desc := "()V" } : Jvm.MethodName)) ∈ gw_all := List.mem_filter.mpr ⟨List.mem_append_right _ (List.mem_of_getElem? (i := 615) (by decide +kernel)), rfl⟩
theorem tb_617 : (Jvm.Cond.instanceMethod ({ cls := "GraphWalker$Walk", name := "stepWithTerm", desc := "()V" } : Jvm.MethodName)) ∈ gw_all := List.mem_filter.mpr ⟨List.mem_append_right _ (List.mem_of_getElem? (i := 617) (by decide +kernel)), rfl⟩
theorem tb_618 : (Jvm.Cond.code ({ cls := "GraphWalker$Walk", name := "stepWithTerm", desc := "()V" } : Jvm.MethodName) prog_7_method_8_code (1 : Nat) (Option.none : Option Jvm.ClassFile.FieldType)) ∈ gw_T := List.mem_filter.mpr ⟨List.mem_append_right _ (List.mem_of_getElem? (i := 618) (by decide +kernel)), rfl⟩
theorem tb_619 : (Jvm.Cond.methodLink "GraphWalker$Walk" (131 : Nat) ({ cls := "GraphWalker$Terms", name := "sortOf", desc := "(I)I" } : Jvm.MethodName)) ∈ gw_all := List.mem_filter.mpr ⟨List.mem_append_right _ (List.mem_of_getElem? (i := 619) (by decide +kernel)), rfl⟩
theorem tb_620 : (Jvm.Cond.instanceMethod ({ cls := "GraphWalker$Terms", name := "sortOf", desc := "(I)I" } : Jvm.MethodName)) ∈ gw_all := List.mem_filter.mpr ⟨List.mem_append_right _ (List.mem_of_getElem? (i := 620) (by decide +kernel)), rfl⟩
theorem tb_621 : (Jvm.Cond.selects "GraphWalker$Terms" ({ cls := "GraphWalker$Terms", name := "sortOf", desc := "(I)I" } : Jvm.MethodName) ({ cls := "GraphWalker$Terms", name := "sortOf", desc := "(I)I" } : Jvm.MethodName)) ∈ gw_all := List.mem_filter.mpr ⟨List.mem_append_right _ (List.mem_of_getElem? (i := 621) (by decide +kernel)), rfl⟩
theorem tb_622 : (Jvm.Cond.code ({ cls := "GraphWalker$Terms", name := "sortOf", desc := "(I)I" } : Jvm.MethodName) prog_4_method_11_code (2 : Nat) (Option.some Jvm.ClassFile.FieldType.int)) ∈ gw_T := List.mem_filter.mpr ⟨List.mem_append_right _ (List.mem_of_getElem? (i := 622) (by decide +kernel)), rfl⟩
theorem tb_623 : (Jvm.Cond.methodLink "GraphWalker$Walk" (134 : Nat) ({ cls := "GraphWalker$Terms", name := "numberOf", desc := "(I)J" } : Jvm.MethodName)) ∈ gw_all := List.mem_filter.mpr ⟨List.mem_append_right _ (List.mem_of_getElem? (i := 623) (by decide +kernel)), rfl⟩
theorem tb_624 : (Jvm.Cond.instanceMethod ({ cls := "GraphWalker$Terms", name := "numberOf", desc := "(I)J" } : Jvm.MethodName)) ∈ gw_all := List.mem_filter.mpr ⟨List.mem_append_right _ (List.mem_of_getElem? (i := 624) (by decide +kernel)), rfl⟩
theorem tb_625 : (Jvm.Cond.selects "GraphWalker$Terms" ({ cls := "GraphWalker$Terms", name := "numberOf", desc := "(I)J" } : Jvm.MethodName) ({ cls := "GraphWalker$Terms", name := "numberOf", desc := "(I)J" } : Jvm.MethodName)) ∈ gw_all := List.mem_filter.mpr ⟨List.mem_append_right _ (List.mem_of_getElem? (i := 625) (by decide +kernel)), rfl⟩
theorem tb_626 : (Jvm.Cond.code ({ cls := "GraphWalker$Terms", name := "numberOf", desc := "(I)J" } : Jvm.MethodName) prog_4_method_15_code (2 : Nat) (Option.some Jvm.ClassFile.FieldType.long)) ∈ gw_T := List.mem_filter.mpr ⟨List.mem_append_right _ (List.mem_of_getElem? (i := 626) (by decide +kernel)), rfl⟩
theorem tb_627 : (Jvm.Cond.methodLink "GraphWalker$Walk" (138 : Nat) ({ cls := "GraphWalker$Value", name := "beLambda", desc := "(II)V" } : Jvm.MethodName)) ∈ gw_all := List.mem_filter.mpr ⟨List.mem_append_right _ (List.mem_of_getElem? (i := 627) (by decide +kernel)), rfl⟩
theorem tb_628 : (Jvm.Cond.instanceMethod ({ cls := "GraphWalker$Value", name := "beLambda", desc := "(II)V" } : Jvm.MethodName)) ∈ gw_all := List.mem_filter.mpr ⟨List.mem_append_right _ (List.mem_of_getElem? (i := 628) (by decide +kernel)), rfl⟩
theorem tb_629 : (Jvm.Cond.selects "GraphWalker$Value" ({ cls := "GraphWalker$Value", name := "beLambda", desc := "(II)V" } : Jvm.MethodName) ({ cls := "GraphWalker$Value", name := "beLambda", desc := "(II)V" } : Jvm.MethodName)) ∈ gw_all := List.mem_filter.mpr ⟨List.mem_append_right _ (List.mem_of_getElem? (i := 629) (by decide +kernel)), rfl⟩
theorem tb_630 : (Jvm.Cond.code ({ cls := "GraphWalker$Value", name := "beLambda", desc := "(II)V" } : Jvm.MethodName) prog_6_method_3_code (3 : Nat) (Option.none : Option Jvm.ClassFile.FieldType)) ∈ gw_T := List.mem_filter.mpr ⟨List.mem_append_right _ (List.mem_of_getElem? (i := 630) (by decide +kernel)), rfl⟩
theorem tb_631 : (Jvm.Cond.methodLink "GraphWalker$Walk" (141 : Nat) ({ cls := "GraphWalker$Terms", name := "firstOf", desc := "(I)I" } : Jvm.MethodName)) ∈ gw_all := List.mem_filter.mpr ⟨List.mem_append_right _ (List.mem_of_getElem? (i := 631) (by decide +kernel)), rfl⟩
theorem tb_632 : (Jvm.Cond.instanceMethod ({ cls := "GraphWalker$Terms", name := "firstOf", desc := "(I)I" } : Jvm.MethodName)) ∈ gw_all := List.mem_filter.mpr ⟨List.mem_append_right _ (List.mem_of_getElem? (i := 632) (by decide +kernel)), rfl⟩
theorem tb_633 : (Jvm.Cond.selects "GraphWalker$Terms" ({ cls := "GraphWalker$Terms", name := "firstOf", desc := "(I)I" } : Jvm.MethodName) ({ cls := "GraphWalker$Terms", name := "firstOf", desc := "(I)I" } : Jvm.MethodName)) ∈ gw_all := List.mem_filter.mpr ⟨List.mem_append_right _ (List.mem_of_getElem? (i := 633) (by decide +kernel)), rfl⟩
theorem tb_634 : (Jvm.Cond.code ({ cls := "GraphWalker$Terms", name := "firstOf", desc := "(I)I" } : Jvm.MethodName) prog_4_method_12_code (2 : Nat) (Option.some Jvm.ClassFile.FieldType.int)) ∈ gw_T := List.mem_filter.mpr ⟨List.mem_append_right _ (List.mem_of_getElem? (i := 634) (by decide +kernel)), rfl⟩
theorem tb_635 : (Jvm.Cond.methodLink "GraphWalker$Walk" (142 : Nat) ({ cls := "GraphWalker$Places", name := "thingAt", desc := "(II)I" } : Jvm.MethodName)) ∈ gw_all := List.mem_filter.mpr ⟨List.mem_append_right _ (List.mem_of_getElem? (i := 635) (by decide +kernel)), rfl⟩
theorem tb_636 : (Jvm.Cond.instanceMethod ({ cls := "GraphWalker$Places", name := "thingAt", desc := "(II)I" } : Jvm.MethodName)) ∈ gw_all := List.mem_filter.mpr ⟨List.mem_append_right _ (List.mem_of_getElem? (i := 636) (by decide +kernel)), rfl⟩
theorem tb_637 : (Jvm.Cond.selects "GraphWalker$Places" ({ cls := "GraphWalker$Places", name := "thingAt", desc := "(II)I" } : Jvm.MethodName) ({ cls := "GraphWalker$Places", name := "thingAt", desc := "(II)I" } : Jvm.MethodName)) ∈ gw_all := List.mem_filter.mpr ⟨List.mem_append_right _ (List.mem_of_getElem? (i := 637) (by decide +kernel)), rfl⟩
theorem tb_638 : (Jvm.Cond.code ({ cls := "GraphWalker$Places", name := "thingAt", desc := "(II)I" } : Jvm.MethodName) prog_2_method_8_code (5 : Nat) (Option.some Jvm.ClassFile.FieldType.int)) ∈ gw_T := List.mem_filter.mpr ⟨List.mem_append_right _ (List.mem_of_getElem? (i := 638) (by decide +kernel)), rfl⟩
theorem tb_639 : (Jvm.Cond.methodLink "GraphWalker$Walk" (107 : Nat) ({ cls := "GraphWalker$Walk", name := "need", desc := "(IZ)V" } : Jvm.MethodName)) ∈ gw_all := List.mem_filter.mpr ⟨List.mem_append_right _ (List.mem_of_getElem? (i := 639) (by decide +kernel)), rfl⟩
theorem tb_641 : (Jvm.Cond.instanceMethod ({ cls := "GraphWalker$Walk", name := "need", desc := "(IZ)V" } : Jvm.MethodName)) ∈ gw_all := List.mem_filter.mpr ⟨List.mem_append_right _ (List.mem_of_getElem? (i := 641) (by decide +kernel)), rfl⟩
theorem tb_642 : (Jvm.Cond.code ({ cls := "GraphWalker$Walk", name := "need", desc := "(IZ)V" } : Jvm.MethodName) prog_7_method_15_code (3 : Nat) (Option.none : Option Jvm.ClassFile.FieldType)) ∈ gw_T := List.mem_filter.mpr ⟨List.mem_append_right _ (List.mem_of_getElem? (i := 642) (by decide +kernel)), rfl⟩
theorem tb_643 : (Jvm.Cond.methodLink "GraphWalker$Walk" (190 : Nat) ({ cls := "GraphWalker$Row", name := "drop", desc := "()V" } : Jvm.MethodName)) ∈ gw_all := List.mem_filter.mpr ⟨List.mem_append_right _ (List.mem_of_getElem? (i := 643) (by decide +kernel)), rfl⟩
theorem tb_644 : (Jvm.Cond.instanceMethod ({ cls := "GraphWalker$Row", name := "drop", desc := "()V" } : Jvm.MethodName)) ∈ gw_all := List.mem_filter.mpr ⟨List.mem_append_right _ (List.mem_of_getElem? (i := 644) (by decide +kernel)), rfl⟩
theorem tb_645 : (Jvm.Cond.selects "GraphWalker$Row" ({ cls := "GraphWalker$Row", name := "drop", desc := "()V" } : Jvm.MethodName) ({ cls := "GraphWalker$Row", name := "drop", desc := "()V" } : Jvm.MethodName)) ∈ gw_all := List.mem_filter.mpr ⟨List.mem_append_right _ (List.mem_of_getElem? (i := 645) (by decide +kernel)), rfl⟩
theorem tb_646 : (Jvm.Cond.code ({ cls := "GraphWalker$Row", name := "drop", desc := "()V" } : Jvm.MethodName) prog_3_method_6_code (1 : Nat) (Option.none : Option Jvm.ClassFile.FieldType)) ∈ gw_T := List.mem_filter.mpr ⟨List.mem_append_right _ (List.mem_of_getElem? (i := 646) (by decide +kernel)), rfl⟩
theorem tb_647 : (Jvm.Cond.methodLink "GraphWalker$Walk" (193 : Nat) ({ cls := "GraphWalker$Things", name := "copyValue", desc := "(ILGraphWalker$Value;)V" } : Jvm.MethodName)) ∈ gw_all := List.mem_filter.mpr ⟨List.mem_append_right _ (List.mem_of_getElem? (i := 647) (by decide +kernel)), rfl⟩
theorem tb_648 : (Jvm.Cond.instanceMethod ({ cls := "GraphWalker$Things", name := "copyValue", desc := "(ILGraphWalker$Value;)V" } : Jvm.MethodName)) ∈ gw_all := List.mem_filter.mpr ⟨List.mem_append_right _ (List.mem_of_getElem? (i := 648) (by decide +kernel)), rfl⟩
theorem tb_649 : (Jvm.Cond.selects "GraphWalker$Things" ({ cls := "GraphWalker$Things", name := "copyValue", desc := "(ILGraphWalker$Value;)V" } : Jvm.MethodName) ({ cls := "GraphWalker$Things", name := "copyValue", desc := "(ILGraphWalker$Value;)V" } : Jvm.MethodName)) ∈ gw_all := List.mem_filter.mpr ⟨List.mem_append_right _ (List.mem_of_getElem? (i := 649) (by decide +kernel)), rfl⟩
theorem tb_650 : (Jvm.Cond.code ({ cls := "GraphWalker$Things", name := "copyValue", desc := "(ILGraphWalker$Value;)V" } : Jvm.MethodName) prog_5_method_14_code (3 : Nat) (Option.none : Option Jvm.ClassFile.FieldType)) ∈ gw_T := List.mem_filter.mpr ⟨List.mem_append_right _ (List.mem_of_getElem? (i := 650) (by decide +kernel)), rfl⟩
theorem tb_651 : (Jvm.Cond.methodLink "GraphWalker$Things" (78 : Nat) ({ cls := "GraphWalker$Value", name := "be", desc := "(IJII)V" } : Jvm.MethodName)) ∈ gw_all := List.mem_filter.mpr ⟨List.mem_append_right _ (List.mem_of_getElem? (i := 651) (by decide +kernel)), rfl⟩
theorem tb_652 : (Jvm.Cond.methodLink "GraphWalker$Walk" (197 : Nat) ({ cls := "GraphWalker$Walk", name := "needWaiting", desc := "(IZ)V" } : Jvm.MethodName)) ∈ gw_all := List.mem_filter.mpr ⟨List.mem_append_right _ (List.mem_of_getElem? (i := 652) (by decide +kernel)), rfl⟩
theorem tb_654 : (Jvm.Cond.instanceMethod ({ cls := "GraphWalker$Walk", name := "needWaiting", desc := "(IZ)V" } : Jvm.MethodName)) ∈ gw_all := List.mem_filter.mpr ⟨List.mem_append_right _ (List.mem_of_getElem? (i := 654) (by decide +kernel)), rfl⟩
theorem tb_655 : (Jvm.Cond.code ({ cls := "GraphWalker$Walk", name := "needWaiting", desc := "(IZ)V" } : Jvm.MethodName) prog_7_method_16_code (3 : Nat) (Option.none : Option Jvm.ClassFile.FieldType)) ∈ gw_T := List.mem_filter.mpr ⟨List.mem_append_right _ (List.mem_of_getElem? (i := 655) (by decide +kernel)), rfl⟩
theorem tb_656 : (Jvm.Cond.methodLink "GraphWalker$Walk" (178 : Nat) ({ cls := "GraphWalker$Row", name := "isFull", desc := "()Z" } : Jvm.MethodName)) ∈ gw_all := List.mem_filter.mpr ⟨List.mem_append_right _ (List.mem_of_getElem? (i := 656) (by decide +kernel)), rfl⟩
theorem tb_657 : (Jvm.Cond.instanceMethod ({ cls := "GraphWalker$Row", name := "isFull", desc := "()Z" } : Jvm.MethodName)) ∈ gw_all := List.mem_filter.mpr ⟨List.mem_append_right _ (List.mem_of_getElem? (i := 657) (by decide +kernel)), rfl⟩
theorem tb_658 : (Jvm.Cond.selects "GraphWalker$Row" ({ cls := "GraphWalker$Row", name := "isFull", desc := "()Z" } : Jvm.MethodName) ({ cls := "GraphWalker$Row", name := "isFull", desc := "()Z" } : Jvm.MethodName)) ∈ gw_all := List.mem_filter.mpr ⟨List.mem_append_right _ (List.mem_of_getElem? (i := 658) (by decide +kernel)), rfl⟩
theorem tb_659 : (Jvm.Cond.code ({ cls := "GraphWalker$Row", name := "isFull", desc := "()Z" } : Jvm.MethodName) prog_3_method_4_code (1 : Nat) (Option.some Jvm.ClassFile.FieldType.boolean)) ∈ gw_T := List.mem_filter.mpr ⟨List.mem_append_right _ (List.mem_of_getElem? (i := 659) (by decide +kernel)), rfl⟩
theorem tb_660 : (Jvm.Cond.methodLink "GraphWalker$Walk" (200 : Nat) ({ cls := "GraphWalker$Things", name := "countWork", desc := "(I)V" } : Jvm.MethodName)) ∈ gw_all := List.mem_filter.mpr ⟨List.mem_append_right _ (List.mem_of_getElem? (i := 660) (by decide +kernel)), rfl⟩
theorem tb_661 : (Jvm.Cond.instanceMethod ({ cls := "GraphWalker$Things", name := "countWork", desc := "(I)V" } : Jvm.MethodName)) ∈ gw_all := List.mem_filter.mpr ⟨List.mem_append_right _ (List.mem_of_getElem? (i := 661) (by decide +kernel)), rfl⟩
theorem tb_662 : (Jvm.Cond.selects "GraphWalker$Things" ({ cls := "GraphWalker$Things", name := "countWork", desc := "(I)V" } : Jvm.MethodName) ({ cls := "GraphWalker$Things", name := "countWork", desc := "(I)V" } : Jvm.MethodName)) ∈ gw_all := List.mem_filter.mpr ⟨List.mem_append_right _ (List.mem_of_getElem? (i := 662) (by decide +kernel)), rfl⟩
theorem tb_663 : (Jvm.Cond.code ({ cls := "GraphWalker$Things", name := "countWork", desc := "(I)V" } : Jvm.MethodName) prog_5_method_11_code (2 : Nat) (Option.none : Option Jvm.ClassFile.FieldType)) ∈ gw_T := List.mem_filter.mpr ⟨List.mem_append_right _ (List.mem_of_getElem? (i := 663) (by decide +kernel)), rfl⟩
theorem tb_664 : (Jvm.Cond.methodLink "GraphWalker$Walk" (203 : Nat) ({ cls := "GraphWalker$Row", name := "newestInWork", desc := "()I" } : Jvm.MethodName)) ∈ gw_all := List.mem_filter.mpr ⟨List.mem_append_right _ (List.mem_of_getElem? (i := 664) (by decide +kernel)), rfl⟩
theorem tb_665 : (Jvm.Cond.instanceMethod ({ cls := "GraphWalker$Row", name := "newestInWork", desc := "()I" } : Jvm.MethodName)) ∈ gw_all := List.mem_filter.mpr ⟨List.mem_append_right _ (List.mem_of_getElem? (i := 665) (by decide +kernel)), rfl⟩
theorem tb_666 : (Jvm.Cond.selects "GraphWalker$Row" ({ cls := "GraphWalker$Row", name := "newestInWork", desc := "()I" } : Jvm.MethodName) ({ cls := "GraphWalker$Row", name := "newestInWork", desc := "()I" } : Jvm.MethodName)) ∈ gw_all := List.mem_filter.mpr ⟨List.mem_append_right _ (List.mem_of_getElem? (i := 666) (by decide +kernel)), rfl⟩
theorem tb_667 : (Jvm.Cond.code ({ cls := "GraphWalker$Row", name := "newestInWork", desc := "()I" } : Jvm.MethodName) prog_3_method_12_code (2 : Nat) (Option.some Jvm.ClassFile.FieldType.int)) ∈ gw_T := List.mem_filter.mpr ⟨List.mem_append_right _ (List.mem_of_getElem? (i := 667) (by decide +kernel)), rfl⟩
theorem tb_668 : (Jvm.Cond.methodLink "GraphWalker$Walk" (206 : Nat) ({ cls := "GraphWalker$Things", name := "putInWork", desc := "(II)V" } : Jvm.MethodName)) ∈ gw_all := List.mem_filter.mpr ⟨List.mem_append_right _ (List.mem_of_getElem? (i := 668) (by decide +kernel)), rfl⟩
theorem tb_669 : (Jvm.Cond.instanceMethod ({ cls := "GraphWalker$Things", name := "putInWork", desc := "(II)V" } : Jvm.MethodName)) ∈ gw_all := List.mem_filter.mpr ⟨List.mem_append_right _ (List.mem_of_getElem? (i := 669) (by decide +kernel)), rfl⟩
theorem tb_670 : (Jvm.Cond.selects "GraphWalker$Things" ({ cls := "GraphWalker$Things", name := "putInWork", desc := "(II)V" } : Jvm.MethodName) ({ cls := "GraphWalker$Things", name := "putInWork", desc := "(II)V" } : Jvm.MethodName)) ∈ gw_all := List.mem_filter.mpr ⟨List.mem_append_right _ (List.mem_of_getElem? (i := 670) (by decide +kernel)), rfl⟩
theorem tb_671 : (Jvm.Cond.code ({ cls := "GraphWalker$Things", name := "putInWork", desc := "(II)V" } : Jvm.MethodName) prog_5_method_12_code (3 : Nat) (Option.none : Option Jvm.ClassFile.FieldType)) ∈ gw_T := List.mem_filter.mpr ⟨List.mem_append_right _ (List.mem_of_getElem? (i := 671) (by decide +kernel)), rfl⟩
theorem tb_672 : (Jvm.Cond.methodLink "GraphWalker$Walk" (182 : Nat) ({ cls := "GraphWalker$Row", name := "add", desc := "(IIIJ)V" } : Jvm.MethodName)) ∈ gw_all := List.mem_filter.mpr ⟨List.mem_append_right _ (List.mem_of_getElem? (i := 672) (by decide +kernel)), rfl⟩
theorem tb_673 : (Jvm.Cond.instanceMethod ({ cls := "GraphWalker$Row", name := "add", desc := "(IIIJ)V" } : Jvm.MethodName)) ∈ gw_all := List.mem_filter.mpr ⟨List.mem_append_right _ (List.mem_of_getElem? (i := 673) (by decide +kernel)), rfl⟩
theorem tb_674 : (Jvm.Cond.selects "GraphWalker$Row" ({ cls := "GraphWalker$Row", name := "add", desc := "(IIIJ)V" } : Jvm.MethodName) ({ cls := "GraphWalker$Row", name := "add", desc := "(IIIJ)V" } : Jvm.MethodName)) ∈ gw_all := List.mem_filter.mpr ⟨List.mem_append_right _ (List.mem_of_getElem? (i := 674) (by decide +kernel)), rfl⟩
theorem tb_675 : (Jvm.Cond.code ({ cls := "GraphWalker$Row", name := "add", desc := "(IIIJ)V" } : Jvm.MethodName) prog_3_method_5_code (7 : Nat) (Option.none : Option Jvm.ClassFile.FieldType)) ∈ gw_T := List.mem_filter.mpr ⟨List.mem_append_right _ (List.mem_of_getElem? (i := 675) (by decide +kernel)), rfl⟩
theorem tb_676 : (Jvm.Cond.methodLink "GraphWalker$Walk" (209 : Nat) ({ cls := "GraphWalker$Things", name := "termOf", desc := "(I)I" } : Jvm.MethodName)) ∈ gw_all := List.mem_filter.mpr ⟨List.mem_append_right _ (List.mem_of_getElem? (i := 676) (by decide +kernel)), rfl⟩
theorem tb_677 : (Jvm.Cond.instanceMethod ({ cls := "GraphWalker$Things", name := "termOf", desc := "(I)I" } : Jvm.MethodName)) ∈ gw_all := List.mem_filter.mpr ⟨List.mem_append_right _ (List.mem_of_getElem? (i := 677) (by decide +kernel)), rfl⟩
theorem tb_678 : (Jvm.Cond.selects "GraphWalker$Things" ({ cls := "GraphWalker$Things", name := "termOf", desc := "(I)I" } : Jvm.MethodName) ({ cls := "GraphWalker$Things", name := "termOf", desc := "(I)I" } : Jvm.MethodName)) ∈ gw_all := List.mem_filter.mpr ⟨List.mem_append_right _ (List.mem_of_getElem? (i := 678) (by decide +kernel)), rfl⟩
theorem tb_679 : (Jvm.Cond.code ({ cls := "GraphWalker$Things", name := "termOf", desc := "(I)I" } : Jvm.MethodName) prog_5_method_7_code (2 : Nat) (Option.some Jvm.ClassFile.FieldType.int)) ∈ gw_T := List.mem_filter.mpr ⟨List.mem_append_right _ (List.mem_of_getElem? (i := 679) (by decide +kernel)), rfl⟩
theorem tb_680 : (Jvm.Cond.methodLink "GraphWalker$Walk" (146 : Nat) ({ cls := "GraphWalker$Terms", name := "secondOf", desc := "(I)I" } : Jvm.MethodName)) ∈ gw_all := List.mem_filter.mpr ⟨List.mem_append_right _ (List.mem_of_getElem? (i := 680) (by decide +kernel)), rfl⟩
theorem tb_681 : (Jvm.Cond.instanceMethod ({ cls := "GraphWalker$Terms", name := "secondOf", desc := "(I)I" } : Jvm.MethodName)) ∈ gw_all := List.mem_filter.mpr ⟨List.mem_append_right _ (List.mem_of_getElem? (i := 681) (by decide +kernel)), rfl⟩
theorem tb_682 : (Jvm.Cond.selects "GraphWalker$Terms" ({ cls := "GraphWalker$Terms", name := "secondOf", desc := "(I)I" } : Jvm.MethodName) ({ cls := "GraphWalker$Terms", name := "secondOf", desc := "(I)I" } : Jvm.MethodName)) ∈ gw_all := List.mem_filter.mpr ⟨List.mem_append_right _ (List.mem_of_getElem? (i := 682) (by decide +kernel)), rfl⟩
theorem tb_683 : (Jvm.Cond.code ({ cls := "GraphWalker$Terms", name := "secondOf", desc := "(I)I" } : Jvm.MethodName) prog_4_method_13_code (2 : Nat) (Option.some Jvm.ClassFile.FieldType.int)) ∈ gw_T := List.mem_filter.mpr ⟨List.mem_append_right _ (List.mem_of_getElem? (i := 683) (by decide +kernel)), rfl⟩
theorem tb_684 : (Jvm.Cond.methodLink "GraphWalker$Walk" (149 : Nat) ({ cls := "GraphWalker$Walk", name := "makePair", desc := "(II)V" } : Jvm.MethodName)) ∈ gw_all := List.mem_filter.mpr ⟨List.mem_append_right _ (List.mem_of_getElem? (i := 684) (by decide +kernel)), rfl⟩
theorem tb_686 : (Jvm.Cond.instanceMethod ({ cls := "GraphWalker$Walk", name := "makePair", desc := "(II)V" } : Jvm.MethodName)) ∈ gw_all := List.mem_filter.mpr ⟨List.mem_append_right _ (List.mem_of_getElem? (i := 686) (by decide +kernel)), rfl⟩
theorem tb_687 : (Jvm.Cond.code ({ cls := "GraphWalker$Walk", name := "makePair", desc := "(II)V" } : Jvm.MethodName) prog_7_method_11_code (5 : Nat) (Option.none : Option Jvm.ClassFile.FieldType)) ∈ gw_T := List.mem_filter.mpr ⟨List.mem_append_right _ (List.mem_of_getElem? (i := 687) (by decide +kernel)), rfl⟩
theorem tb_688 : (Jvm.Cond.methodLink "GraphWalker$Walk" (165 : Nat) ({ cls := "GraphWalker$Walk", name := "newThingsFor", desc := "(I)I" } : Jvm.MethodName)) ∈ gw_all := List.mem_filter.mpr ⟨List.mem_append_right _ (List.mem_of_getElem? (i := 688) (by decide +kernel)), rfl⟩
theorem tb_690 : (Jvm.Cond.instanceMethod ({ cls := "GraphWalker$Walk", name := "newThingsFor", desc := "(I)I" } : Jvm.MethodName)) ∈ gw_all := List.mem_filter.mpr ⟨List.mem_append_right _ (List.mem_of_getElem? (i := 690) (by decide +kernel)), rfl⟩
theorem tb_691 : (Jvm.Cond.code ({ cls := "GraphWalker$Walk", name := "newThingsFor", desc := "(I)I" } : Jvm.MethodName) prog_7_method_9_code (2 : Nat) (Option.some Jvm.ClassFile.FieldType.int)) ∈ gw_T := List.mem_filter.mpr ⟨List.mem_append_right _ (List.mem_of_getElem? (i := 691) (by decide +kernel)), rfl⟩
theorem tb_692 : (Jvm.Cond.methodLink "GraphWalker$Walk" (168 : Nat) ({ cls := "GraphWalker$Things", name := "hasRoomFor", desc := "(I)Z" } : Jvm.MethodName)) ∈ gw_all := List.mem_filter.mpr ⟨List.mem_append_right _ (List.mem_of_getElem? (i := 692) (by decide +kernel)), rfl⟩
theorem tb_693 : (Jvm.Cond.instanceMethod ({ cls := "GraphWalker$Things", name := "hasRoomFor", desc := "(I)Z" } : Jvm.MethodName)) ∈ gw_all := List.mem_filter.mpr ⟨List.mem_append_right _ (List.mem_of_getElem? (i := 693) (by decide +kernel)), rfl⟩
theorem tb_694 : (Jvm.Cond.selects "GraphWalker$Things" ({ cls := "GraphWalker$Things", name := "hasRoomFor", desc := "(I)Z" } : Jvm.MethodName) ({ cls := "GraphWalker$Things", name := "hasRoomFor", desc := "(I)Z" } : Jvm.MethodName)) ∈ gw_all := List.mem_filter.mpr ⟨List.mem_append_right _ (List.mem_of_getElem? (i := 694) (by decide +kernel)), rfl⟩
theorem tb_695 : (Jvm.Cond.code ({ cls := "GraphWalker$Things", name := "hasRoomFor", desc := "(I)Z" } : Jvm.MethodName) prog_5_method_4_code (2 : Nat) (Option.some Jvm.ClassFile.FieldType.boolean)) ∈ gw_T := List.mem_filter.mpr ⟨List.mem_append_right _ (List.mem_of_getElem? (i := 695) (by decide +kernel)), rfl⟩
theorem tb_696 : (Jvm.Cond.methodLink "GraphWalker$Walk" (172 : Nat) ({ cls := "GraphWalker$Walk", name := "thingFor", desc := "(I)I" } : Jvm.MethodName)) ∈ gw_all := List.mem_filter.mpr ⟨List.mem_append_right _ (List.mem_of_getElem? (i := 696) (by decide +kernel)), rfl⟩
theorem tb_698 : (Jvm.Cond.instanceMethod ({ cls := "GraphWalker$Walk", name := "thingFor", desc := "(I)I" } : Jvm.MethodName)) ∈ gw_all := List.mem_filter.mpr ⟨List.mem_append_right _ (List.mem_of_getElem? (i := 698) (by decide +kernel)), rfl⟩
theorem tb_699 : (Jvm.Cond.code ({ cls := "GraphWalker$Walk", name := "thingFor", desc := "(I)I" } : Jvm.MethodName) prog_7_method_10_code (2 : Nat) (Option.some Jvm.ClassFile.FieldType.int)) ∈ gw_T := List.mem_filter.mpr ⟨List.mem_append_right _ (List.mem_of_getElem? (i := 699) (by decide +kernel)), rfl⟩
theorem tb_700 : (Jvm.Cond.methodLink "GraphWalker$Walk" (162 : Nat) ({ cls := "GraphWalker$Things", name := "add", desc := "(II)I" } : Jvm.MethodName)) ∈ gw_all := List.mem_filter.mpr ⟨List.mem_append_right _ (List.mem_of_getElem? (i := 700) (by decide +kernel)), rfl⟩
theorem tb_701 : (Jvm.Cond.instanceMethod ({ cls := "GraphWalker$Things", name := "add", desc := "(II)I" } : Jvm.MethodName)) ∈ gw_all := List.mem_filter.mpr ⟨List.mem_append_right _ (List.mem_of_getElem? (i := 701) (by decide +kernel)), rfl⟩
theorem tb_702 : (Jvm.Cond.selects "GraphWalker$Things" ({ cls := "GraphWalker$Things", name := "add", desc := "(II)I" } : Jvm.MethodName) ({ cls := "GraphWalker$Things", name := "add", desc := "(II)I" } : Jvm.MethodName)) ∈ gw_all := List.mem_filter.mpr ⟨List.mem_append_right _ (List.mem_of_getElem? (i := 702) (by decide +kernel)), rfl⟩
theorem tb_703 : (Jvm.Cond.code ({ cls := "GraphWalker$Things", name := "add", desc := "(II)I" } : Jvm.MethodName) prog_5_method_5_code (5 : Nat) (Option.some Jvm.ClassFile.FieldType.int)) ∈ gw_T := List.mem_filter.mpr ⟨List.mem_append_right _ (List.mem_of_getElem? (i := 703) (by decide +kernel)), rfl⟩
theorem tb_704 : (Jvm.Cond.methodLink "GraphWalker$Walk" (175 : Nat) ({ cls := "GraphWalker$Value", name := "bePair", desc := "(II)V" } : Jvm.MethodName)) ∈ gw_all := List.mem_filter.mpr ⟨List.mem_append_right _ (List.mem_of_getElem? (i := 704) (by decide +kernel)), rfl⟩
theorem tb_705 : (Jvm.Cond.instanceMethod ({ cls := "GraphWalker$Value", name := "bePair", desc := "(II)V" } : Jvm.MethodName)) ∈ gw_all := List.mem_filter.mpr ⟨List.mem_append_right _ (List.mem_of_getElem? (i := 705) (by decide +kernel)), rfl⟩
theorem tb_706 : (Jvm.Cond.selects "GraphWalker$Value" ({ cls := "GraphWalker$Value", name := "bePair", desc := "(II)V" } : Jvm.MethodName) ({ cls := "GraphWalker$Value", name := "bePair", desc := "(II)V" } : Jvm.MethodName)) ∈ gw_all := List.mem_filter.mpr ⟨List.mem_append_right _ (List.mem_of_getElem? (i := 706) (by decide +kernel)), rfl⟩
theorem tb_707 : (Jvm.Cond.code ({ cls := "GraphWalker$Value", name := "bePair", desc := "(II)V" } : Jvm.MethodName) prog_6_method_4_code (3 : Nat) (Option.none : Option Jvm.ClassFile.FieldType)) ∈ gw_T := List.mem_filter.mpr ⟨List.mem_append_right _ (List.mem_of_getElem? (i := 707) (by decide +kernel)), rfl⟩
theorem tb_708 : (Jvm.Cond.methodLink "GraphWalker$Walk" (152 : Nat) ({ cls := "GraphWalker$Walk", name := "enterApply", desc := "(I)V" } : Jvm.MethodName)) ∈ gw_all := List.mem_filter.mpr ⟨List.mem_append_right _ (List.mem_of_getElem? (i := 708) (by decide +kernel)), rfl⟩
theorem tb_710 : (Jvm.Cond.instanceMethod ({ cls := "GraphWalker$Walk", name := "enterApply", desc := "(I)V" } : Jvm.MethodName)) ∈ gw_all := List.mem_filter.mpr ⟨List.mem_append_right _ (List.mem_of_getElem? (i := 710) (by decide +kernel)), rfl⟩
theorem tb_711 : (Jvm.Cond.code ({ cls := "GraphWalker$Walk", name := "enterApply", desc := "(I)V" } : Jvm.MethodName) prog_7_method_12_code (2 : Nat) (Option.none : Option Jvm.ClassFile.FieldType)) ∈ gw_T := List.mem_filter.mpr ⟨List.mem_append_right _ (List.mem_of_getElem? (i := 711) (by decide +kernel)), rfl⟩
theorem tb_712 : (Jvm.Cond.methodLink "GraphWalker$Walk" (156 : Nat) ({ cls := "GraphWalker$Walk", name := "enterLet", desc := "(II)V" } : Jvm.MethodName)) ∈ gw_all := List.mem_filter.mpr ⟨List.mem_append_right _ (List.mem_of_getElem? (i := 712) (by decide +kernel)), rfl⟩
theorem tb_714 : (Jvm.Cond.instanceMethod ({ cls := "GraphWalker$Walk", name := "enterLet", desc := "(II)V" } : Jvm.MethodName)) ∈ gw_all := List.mem_filter.mpr ⟨List.mem_append_right _ (List.mem_of_getElem? (i := 714) (by decide +kernel)), rfl⟩
theorem tb_715 : (Jvm.Cond.code ({ cls := "GraphWalker$Walk", name := "enterLet", desc := "(II)V" } : Jvm.MethodName) prog_7_method_13_code (4 : Nat) (Option.none : Option Jvm.ClassFile.FieldType)) ∈ gw_T := List.mem_filter.mpr ⟨List.mem_append_right _ (List.mem_of_getElem? (i := 715) (by decide +kernel)), rfl⟩
theorem tb_716 : (Jvm.Cond.methodLink "GraphWalker$Walk" (185 : Nat) ({ cls := "GraphWalker$Places", name := "isFull", desc := "()Z" } : Jvm.MethodName)) ∈ gw_all := List.mem_filter.mpr ⟨List.mem_append_right _ (List.mem_of_getElem? (i := 716) (by decide +kernel)), rfl⟩
theorem tb_717 : (Jvm.Cond.instanceMethod ({ cls := "GraphWalker$Places", name := "isFull", desc := "()Z" } : Jvm.MethodName)) ∈ gw_all := List.mem_filter.mpr ⟨List.mem_append_right _ (List.mem_of_getElem? (i := 717) (by decide +kernel)), rfl⟩
theorem tb_718 : (Jvm.Cond.selects "GraphWalker$Places" ({ cls := "GraphWalker$Places", name := "isFull", desc := "()Z" } : Jvm.MethodName) ({ cls := "GraphWalker$Places", name := "isFull", desc := "()Z" } : Jvm.MethodName)) ∈ gw_all := List.mem_filter.mpr ⟨List.mem_append_right _ (List.mem_of_getElem? (i := 718) (by decide +kernel)), rfl⟩
theorem tb_719 : (Jvm.Cond.code ({ cls := "GraphWalker$Places", name := "isFull", desc := "()Z" } : Jvm.MethodName) prog_2_method_4_code (1 : Nat) (Option.some Jvm.ClassFile.FieldType.boolean)) ∈ gw_T := List.mem_filter.mpr ⟨List.mem_append_right _ (List.mem_of_getElem? (i := 719) (by decide +kernel)), rfl⟩
theorem tb_720 : (Jvm.Cond.methodLink "GraphWalker$Walk" (186 : Nat) ({ cls := "GraphWalker$Places", name := "add", desc := "(II)I" } : Jvm.MethodName)) ∈ gw_all := List.mem_filter.mpr ⟨List.mem_append_right _ (List.mem_of_getElem? (i := 720) (by decide +kernel)), rfl⟩
theorem tb_721 : (Jvm.Cond.instanceMethod ({ cls := "GraphWalker$Places", name := "add", desc := "(II)I" } : Jvm.MethodName)) ∈ gw_all := List.mem_filter.mpr ⟨List.mem_append_right _ (List.mem_of_getElem? (i := 721) (by decide +kernel)), rfl⟩
theorem tb_722 : (Jvm.Cond.selects "GraphWalker$Places" ({ cls := "GraphWalker$Places", name := "add", desc := "(II)I" } : Jvm.MethodName) ({ cls := "GraphWalker$Places", name := "add", desc := "(II)I" } : Jvm.MethodName)) ∈ gw_all := List.mem_filter.mpr ⟨List.mem_append_right _ (List.mem_of_getElem? (i := 722) (by decide +kernel)), rfl⟩
theorem tb_723 : (Jvm.Cond.code ({ cls := "GraphWalker$Places", name := "add", desc := "(II)I" } : Jvm.MethodName) prog_2_method_5_code (4 : Nat) (Option.some Jvm.ClassFile.FieldType.int)) ∈ gw_T := List.mem_filter.mpr ⟨List.mem_append_right _ (List.mem_of_getElem? (i := 723) (by decide +kernel)), rfl⟩
theorem tb_724 : (Jvm.Cond.methodLink "GraphWalker$Walk" (159 : Nat) ({ cls := "GraphWalker$Walk", name := "enter", desc := "(I)V" } : Jvm.MethodName)) ∈ gw_all := List.mem_filter.mpr ⟨List.mem_append_right _ (List.mem_of_getElem? (i := 724) (by decide +kernel)), rfl⟩
theorem tb_726 : (Jvm.Cond.instanceMethod ({ cls := "GraphWalker$Walk", name := "enter", desc := "(I)V" } : Jvm.MethodName)) ∈ gw_all := List.mem_filter.mpr ⟨List.mem_append_right _ (List.mem_of_getElem? (i := 726) (by decide +kernel)), rfl⟩
theorem tb_727 : (Jvm.Cond.code ({ cls := "GraphWalker$Walk", name := "enter", desc := "(I)V" } : Jvm.MethodName) prog_7_method_14_code (2 : Nat) (Option.none : Option Jvm.ClassFile.FieldType)) ∈ gw_T := List.mem_filter.mpr ⟨List.mem_append_right _ (List.mem_of_getElem? (i := 727) (by decide +kernel)), rfl⟩
theorem tb_728 : (Jvm.Cond.methodLink "GraphWalker$Walk" (104 : Nat) ({ cls := "GraphWalker$Walk", name := "stepWithValue", desc := "()V" } : Jvm.MethodName)) ∈ gw_all := List.mem_filter.mpr ⟨List.mem_append_right _ (List.mem_of_getElem? (i := 728) (by decide +kernel)), rfl⟩
theorem tb_730 : (Jvm.Cond.instanceMethod ({ cls := "GraphWalker$Walk", name := "stepWithValue", desc := "()V" } : Jvm.MethodName)) ∈ gw_all := List.mem_filter.mpr ⟨List.mem_append_right _ (List.mem_of_getElem? (i := 730) (by decide +kernel)), rfl⟩
theorem tb_731 : (Jvm.Cond.code ({ cls := "GraphWalker$Walk", name := "stepWithValue", desc := "()V" } : Jvm.MethodName) prog_7_method_17_code (2 : Nat) (Option.none : Option Jvm.ClassFile.FieldType)) ∈ gw_T := List.mem_filter.mpr ⟨List.mem_append_right _ (List.mem_of_getElem? (i := 731) (by decide +kernel)), rfl⟩
theorem tb_732 : (Jvm.Cond.methodLink "GraphWalker$Walk" (215 : Nat) ({ cls := "GraphWalker$Row", name := "newest", desc := "()I" } : Jvm.MethodName)) ∈ gw_all := List.mem_filter.mpr ⟨List.mem_append_right _ (List.mem_of_getElem? (i := 732) (by decide +kernel)), rfl⟩
theorem tb_733 : (Jvm.Cond.instanceMethod ({ cls := "GraphWalker$Row", name := "newest", desc := "()I" } : Jvm.MethodName)) ∈ gw_all := List.mem_filter.mpr ⟨List.mem_append_right _ (List.mem_of_getElem? (i := 733) (by decide +kernel)), rfl⟩
theorem tb_734 : (Jvm.Cond.selects "GraphWalker$Row" ({ cls := "GraphWalker$Row", name := "newest", desc := "()I" } : Jvm.MethodName) ({ cls := "GraphWalker$Row", name := "newest", desc := "()I" } : Jvm.MethodName)) ∈ gw_all := List.mem_filter.mpr ⟨List.mem_append_right _ (List.mem_of_getElem? (i := 734) (by decide +kernel)), rfl⟩
theorem tb_735 : (Jvm.Cond.code ({ cls := "GraphWalker$Row", name := "newest", desc := "()I" } : Jvm.MethodName) prog_3_method_7_code (1 : Nat) (Option.some Jvm.ClassFile.FieldType.int)) ∈ gw_T := List.mem_filter.mpr ⟨List.mem_append_right _ (List.mem_of_getElem? (i := 735) (by decide +kernel)), rfl⟩
theorem tb_736 : (Jvm.Cond.methodLink "GraphWalker$Walk" (218 : Nat) ({ cls := "GraphWalker$Things", name := "finish", desc := "(ILGraphWalker$Value;)V" } : Jvm.MethodName)) ∈ gw_all := List.mem_filter.mpr ⟨List.mem_append_right _ (List.mem_of_getElem? (i := 736) (by decide +kernel)), rfl⟩
theorem tb_737 : (Jvm.Cond.instanceMethod ({ cls := "GraphWalker$Things", name := "finish", desc := "(ILGraphWalker$Value;)V" } : Jvm.MethodName)) ∈ gw_all := List.mem_filter.mpr ⟨List.mem_append_right _ (List.mem_of_getElem? (i := 737) (by decide +kernel)), rfl⟩
theorem tb_738 : (Jvm.Cond.selects "GraphWalker$Things" ({ cls := "GraphWalker$Things", name := "finish", desc := "(ILGraphWalker$Value;)V" } : Jvm.MethodName) ({ cls := "GraphWalker$Things", name := "finish", desc := "(ILGraphWalker$Value;)V" } : Jvm.MethodName)) ∈ gw_all := List.mem_filter.mpr ⟨List.mem_append_right _ (List.mem_of_getElem? (i := 738) (by decide +kernel)), rfl⟩
theorem tb_739 : (Jvm.Cond.code ({ cls := "GraphWalker$Things", name := "finish", desc := "(ILGraphWalker$Value;)V" } : Jvm.MethodName) prog_5_method_13_code (3 : Nat) (Option.none : Option Jvm.ClassFile.FieldType)) ∈ gw_T := List.mem_filter.mpr ⟨List.mem_append_right _ (List.mem_of_getElem? (i := 739) (by decide +kernel)), rfl⟩
theorem tb_740 : (Jvm.Cond.methodLink "GraphWalker$Walk" (221 : Nat) ({ cls := "GraphWalker$Walk", name := "giveThing", desc := "(I)V" } : Jvm.MethodName)) ∈ gw_all := List.mem_filter.mpr ⟨List.mem_append_right _ (List.mem_of_getElem? (i := 740) (by decide +kernel)), rfl⟩
theorem tb_742 : (Jvm.Cond.instanceMethod ({ cls := "GraphWalker$Walk", name := "giveThing", desc := "(I)V" } : Jvm.MethodName)) ∈ gw_all := List.mem_filter.mpr ⟨List.mem_append_right _ (List.mem_of_getElem? (i := 742) (by decide +kernel)), rfl⟩
theorem tb_743 : (Jvm.Cond.code ({ cls := "GraphWalker$Walk", name := "giveThing", desc := "(I)V" } : Jvm.MethodName) prog_7_method_18_code (2 : Nat) (Option.none : Option Jvm.ClassFile.FieldType)) ∈ gw_T := List.mem_filter.mpr ⟨List.mem_append_right _ (List.mem_of_getElem? (i := 743) (by decide +kernel)), rfl⟩
theorem tb_744 : (Jvm.Cond.methodLink "GraphWalker$Walk" (225 : Nat) ({ cls := "GraphWalker$Walk", name := "thenSecond", desc := "(II)V" } : Jvm.MethodName)) ∈ gw_all := List.mem_filter.mpr ⟨List.mem_append_right _ (List.mem_of_getElem? (i := 744) (by decide +kernel)), rfl⟩
theorem tb_746 : (Jvm.Cond.instanceMethod ({ cls := "GraphWalker$Walk", name := "thenSecond", desc := "(II)V" } : Jvm.MethodName)) ∈ gw_all := List.mem_filter.mpr ⟨List.mem_append_right _ (List.mem_of_getElem? (i := 746) (by decide +kernel)), rfl⟩
theorem tb_747 : (Jvm.Cond.code ({ cls := "GraphWalker$Walk", name := "thenSecond", desc := "(II)V" } : Jvm.MethodName) prog_7_method_19_code (3 : Nat) (Option.none : Option Jvm.ClassFile.FieldType)) ∈ gw_T := List.mem_filter.mpr ⟨List.mem_append_right _ (List.mem_of_getElem? (i := 747) (by decide +kernel)), rfl⟩
theorem tb_748 : (Jvm.Cond.methodLink "GraphWalker$Walk" (228 : Nat) ({ cls := "GraphWalker$Terms", name := "thirdOf", desc := "(I)I" } : Jvm.MethodName)) ∈ gw_all := List.mem_filter.mpr ⟨List.mem_append_right _ (List.mem_of_getElem? (i := 748) (by decide +kernel)), rfl⟩
theorem tb_749 : (Jvm.Cond.instanceMethod ({ cls := "GraphWalker$Terms", name := "thirdOf", desc := "(I)I" } : Jvm.MethodName)) ∈ gw_all := List.mem_filter.mpr ⟨List.mem_append_right _ (List.mem_of_getElem? (i := 749) (by decide +kernel)), rfl⟩
theorem tb_750 : (Jvm.Cond.selects "GraphWalker$Terms" ({ cls := "GraphWalker$Terms", name := "thirdOf", desc := "(I)I" } : Jvm.MethodName) ({ cls := "GraphWalker$Terms", name := "thirdOf", desc := "(I)I" } : Jvm.MethodName)) ∈ gw_all := List.mem_filter.mpr ⟨List.mem_append_right _ (List.mem_of_getElem? (i := 750) (by decide +kernel)), rfl⟩
theorem tb_751 : (Jvm.Cond.code ({ cls := "GraphWalker$Terms", name := "thirdOf", desc := "(I)I" } : Jvm.MethodName) prog_4_method_14_code (2 : Nat) (Option.some Jvm.ClassFile.FieldType.int)) ∈ gw_T := List.mem_filter.mpr ⟨List.mem_append_right _ (List.mem_of_getElem? (i := 751) (by decide +kernel)), rfl⟩
theorem tb_752 : (Jvm.Cond.methodLink "GraphWalker$Walk" (231 : Nat) ({ cls := "GraphWalker$Row", name := "numberOf", desc := "(I)J" } : Jvm.MethodName)) ∈ gw_all := List.mem_filter.mpr ⟨List.mem_append_right _ (List.mem_of_getElem? (i := 752) (by decide +kernel)), rfl⟩
theorem tb_753 : (Jvm.Cond.instanceMethod ({ cls := "GraphWalker$Row", name := "numberOf", desc := "(I)J" } : Jvm.MethodName)) ∈ gw_all := List.mem_filter.mpr ⟨List.mem_append_right _ (List.mem_of_getElem? (i := 753) (by decide +kernel)), rfl⟩
theorem tb_754 : (Jvm.Cond.selects "GraphWalker$Row" ({ cls := "GraphWalker$Row", name := "numberOf", desc := "(I)J" } : Jvm.MethodName) ({ cls := "GraphWalker$Row", name := "numberOf", desc := "(I)J" } : Jvm.MethodName)) ∈ gw_all := List.mem_filter.mpr ⟨List.mem_append_right _ (List.mem_of_getElem? (i := 754) (by decide +kernel)), rfl⟩
theorem tb_755 : (Jvm.Cond.code ({ cls := "GraphWalker$Row", name := "numberOf", desc := "(I)J" } : Jvm.MethodName) prog_3_method_11_code (2 : Nat) (Option.some Jvm.ClassFile.FieldType.long)) ∈ gw_T := List.mem_filter.mpr ⟨List.mem_append_right _ (List.mem_of_getElem? (i := 755) (by decide +kernel)), rfl⟩
theorem tb_756 : (Jvm.Cond.methodLink "GraphWalker$Walk" (232 : Nat) ({ cls := "GraphWalker$Walk", name := "actWith", desc := "(IJ)V" } : Jvm.MethodName)) ∈ gw_all := List.mem_filter.mpr ⟨List.mem_append_right _ (List.mem_of_getElem? (i := 756) (by decide +kernel)), rfl⟩
theorem tb_758 : (Jvm.Cond.instanceMethod ({ cls := "GraphWalker$Walk", name := "actWith", desc := "(IJ)V" } : Jvm.MethodName)) ∈ gw_all := List.mem_filter.mpr ⟨List.mem_append_right _ (List.mem_of_getElem? (i := 758) (by decide +kernel)), rfl⟩
theorem tb_759 : (Jvm.Cond.code ({ cls := "GraphWalker$Walk", name := "actWith", desc := "(IJ)V" } : Jvm.MethodName) prog_7_method_20_code (4 : Nat) (Option.none : Option Jvm.ClassFile.FieldType)) ∈ gw_T := List.mem_filter.mpr ⟨List.mem_append_right _ (List.mem_of_getElem? (i := 759) (by decide +kernel)), rfl⟩
theorem tb_760 : (Jvm.Cond.methodLink "GraphWalker$Walk" (255 : Nat) ({ cls := "GraphWalker$Walk", name := "resultOf", desc := "(IJJ)J" } : Jvm.MethodName)) ∈ gw_all := List.mem_filter.mpr ⟨List.mem_append_right _ (List.mem_of_getElem? (i := 760) (by decide +kernel)), rfl⟩
theorem tb_761 : (Jvm.Cond.static ({ cls := "GraphWalker$Walk", name := "resultOf", desc := "(IJJ)J" } : Jvm.MethodName)) ∈ gw_all := List.mem_filter.mpr ⟨List.mem_append_right _ (List.mem_of_getElem? (i := 761) (by decide +kernel)), rfl⟩
theorem tb_762 : (Jvm.Cond.code ({ cls := "GraphWalker$Walk", name := "resultOf", desc := "(IJJ)J" } : Jvm.MethodName) prog_7_method_21_code (5 : Nat) (Option.some Jvm.ClassFile.FieldType.long)) ∈ gw_T := List.mem_filter.mpr ⟨List.mem_append_right _ (List.mem_of_getElem? (i := 762) (by decide +kernel)), rfl⟩
theorem tb_763 : (Jvm.Cond.methodLink "GraphWalker$Walk" (236 : Nat) ({ cls := "GraphWalker$Walk", name := "chooseBranch", desc := "(II)V" } : Jvm.MethodName)) ∈ gw_all := List.mem_filter.mpr ⟨List.mem_append_right _ (List.mem_of_getElem? (i := 763) (by decide +kernel)), rfl⟩
theorem tb_765 : (Jvm.Cond.instanceMethod ({ cls := "GraphWalker$Walk", name := "chooseBranch", desc := "(II)V" } : Jvm.MethodName)) ∈ gw_all := List.mem_filter.mpr ⟨List.mem_append_right _ (List.mem_of_getElem? (i := 765) (by decide +kernel)), rfl⟩
theorem tb_766 : (Jvm.Cond.code ({ cls := "GraphWalker$Walk", name := "chooseBranch", desc := "(II)V" } : Jvm.MethodName) prog_7_method_22_code (4 : Nat) (Option.none : Option Jvm.ClassFile.FieldType)) ∈ gw_T := List.mem_filter.mpr ⟨List.mem_append_right _ (List.mem_of_getElem? (i := 766) (by decide +kernel)), rfl⟩
theorem tb_767 : (Jvm.Cond.methodLink "GraphWalker$Walk" (242 : Nat) ({ cls := "GraphWalker$Walk", name := "takeOfPair", desc := "(I)V" } : Jvm.MethodName)) ∈ gw_all := List.mem_filter.mpr ⟨List.mem_append_right _ (List.mem_of_getElem? (i := 767) (by decide +kernel)), rfl⟩
theorem tb_769 : (Jvm.Cond.instanceMethod ({ cls := "GraphWalker$Walk", name := "takeOfPair", desc := "(I)V" } : Jvm.MethodName)) ∈ gw_all := List.mem_filter.mpr ⟨List.mem_append_right _ (List.mem_of_getElem? (i := 769) (by decide +kernel)), rfl⟩
theorem tb_770 : (Jvm.Cond.code ({ cls := "GraphWalker$Walk", name := "takeOfPair", desc := "(I)V" } : Jvm.MethodName) prog_7_method_23_code (2 : Nat) (Option.none : Option Jvm.ClassFile.FieldType)) ∈ gw_T := List.mem_filter.mpr ⟨List.mem_append_right _ (List.mem_of_getElem? (i := 770) (by decide +kernel)), rfl⟩
theorem tb_871 : (Jvm.Cond.fieldLink "GraphWalkerModel" (91 : Nat) "GraphWalkerModel" "terms" "I") ∈ gw_all := List.mem_filter.mpr ⟨List.mem_append_right _ (List.mem_of_getElem? (i := 871) (by decide +kernel)), rfl⟩
theorem tb_872 : (Jvm.Cond.fieldLink "GraphWalkerModel" (7 : Nat) "GraphWalkerModel" "kinds" "[I") ∈ gw_all := List.mem_filter.mpr ⟨List.mem_append_right _ (List.mem_of_getElem? (i := 872) (by decide +kernel)), rfl⟩
theorem tb_873 : (Jvm.Cond.fieldLink "GraphWalkerModel" (13 : Nat) "GraphWalkerModel" "as" "[I") ∈ gw_all := List.mem_filter.mpr ⟨List.mem_append_right _ (List.mem_of_getElem? (i := 873) (by decide +kernel)), rfl⟩
theorem tb_874 : (Jvm.Cond.fieldLink "GraphWalkerModel" (16 : Nat) "GraphWalkerModel" "bs" "[I") ∈ gw_all := List.mem_filter.mpr ⟨List.mem_append_right _ (List.mem_of_getElem? (i := 874) (by decide +kernel)), rfl⟩
theorem tb_875 : (Jvm.Cond.fieldLink "GraphWalkerModel" (19 : Nat) "GraphWalkerModel" "cs" "[I") ∈ gw_all := List.mem_filter.mpr ⟨List.mem_append_right _ (List.mem_of_getElem? (i := 875) (by decide +kernel)), rfl⟩
theorem tb_876 : (Jvm.Cond.fieldLink "GraphWalkerModel" (22 : Nat) "GraphWalkerModel" "numbers" "[J") ∈ gw_all := List.mem_filter.mpr ⟨List.mem_append_right _ (List.mem_of_getElem? (i := 876) (by decide +kernel)), rfl⟩
theorem tb_877 : (Jvm.Cond.fieldLink "GraphWalkerModel" (26 : Nat) "GraphWalkerModel" "lacking" "[I") ∈ gw_all := List.mem_filter.mpr ⟨List.mem_append_right _ (List.mem_of_getElem? (i := 877) (by decide +kernel)), rfl⟩
theorem tb_878 : (Jvm.Cond.fieldLink "GraphWalkerModel" (113 : Nat) "GraphWalkerModel" "things" "I") ∈ gw_all := List.mem_filter.mpr ⟨List.mem_append_right _ (List.mem_of_getElem? (i := 878) (by decide +kernel)), rfl⟩
theorem tb_879 : (Jvm.Cond.fieldLink "GraphWalkerModel" (116 : Nat) "GraphWalkerModel" "there" "I") ∈ gw_all := List.mem_filter.mpr ⟨List.mem_append_right _ (List.mem_of_getElem? (i := 879) (by decide +kernel)), rfl⟩
theorem tb_880 : (Jvm.Cond.fieldLink "GraphWalkerModel" (29 : Nat) "GraphWalkerModel" "states" "[I") ∈ gw_all := List.mem_filter.mpr ⟨List.mem_append_right _ (List.mem_of_getElem? (i := 880) (by decide +kernel)), rfl⟩
theorem tb_881 : (Jvm.Cond.fieldLink "GraphWalkerModel" (32 : Nat) "GraphWalkerModel" "thingTerms" "[I") ∈ gw_all := List.mem_filter.mpr ⟨List.mem_append_right _ (List.mem_of_getElem? (i := 881) (by decide +kernel)), rfl⟩
theorem tb_882 : (Jvm.Cond.fieldLink "GraphWalkerModel" (35 : Nat) "GraphWalkerModel" "thingPlaces" "[I") ∈ gw_all := List.mem_filter.mpr ⟨List.mem_append_right _ (List.mem_of_getElem? (i := 882) (by decide +kernel)), rfl⟩
theorem tb_883 : (Jvm.Cond.fieldLink "GraphWalkerModel" (38 : Nat) "GraphWalkerModel" "valueSorts" "[I") ∈ gw_all := List.mem_filter.mpr ⟨List.mem_append_right _ (List.mem_of_getElem? (i := 883) (by decide +kernel)), rfl⟩
theorem tb_884 : (Jvm.Cond.fieldLink "GraphWalkerModel" (41 : Nat) "GraphWalkerModel" "valueNumbers" "[J") ∈ gw_all := List.mem_filter.mpr ⟨List.mem_append_right _ (List.mem_of_getElem? (i := 884) (by decide +kernel)), rfl⟩
theorem tb_885 : (Jvm.Cond.fieldLink "GraphWalkerModel" (44 : Nat) "GraphWalkerModel" "valueLefts" "[I") ∈ gw_all := List.mem_filter.mpr ⟨List.mem_append_right _ (List.mem_of_getElem? (i := 885) (by decide +kernel)), rfl⟩
theorem tb_886 : (Jvm.Cond.fieldLink "GraphWalkerModel" (47 : Nat) "GraphWalkerModel" "valueRights" "[I") ∈ gw_all := List.mem_filter.mpr ⟨List.mem_append_right _ (List.mem_of_getElem? (i := 886) (by decide +kernel)), rfl⟩
theorem tb_887 : (Jvm.Cond.fieldLink "GraphWalkerModel" (50 : Nat) "GraphWalkerModel" "works" "[I") ∈ gw_all := List.mem_filter.mpr ⟨List.mem_append_right _ (List.mem_of_getElem? (i := 887) (by decide +kernel)), rfl⟩
theorem tb_888 : (Jvm.Cond.fieldLink "GraphWalkerModel" (53 : Nat) "GraphWalkerModel" "neededBy" "[I") ∈ gw_all := List.mem_filter.mpr ⟨List.mem_append_right _ (List.mem_of_getElem? (i := 888) (by decide +kernel)), rfl⟩
theorem tb_889 : (Jvm.Cond.fieldLink "GraphWalkerModel" (56 : Nat) "GraphWalkerModel" "wasNeeded" "[Z") ∈ gw_all := List.mem_filter.mpr ⟨List.mem_append_right _ (List.mem_of_getElem? (i := 889) (by decide +kernel)), rfl⟩
theorem tb_890 : (Jvm.Cond.fieldLink "GraphWalkerModel" (119 : Nat) "GraphWalkerModel" "places" "I") ∈ gw_all := List.mem_filter.mpr ⟨List.mem_append_right _ (List.mem_of_getElem? (i := 890) (by decide +kernel)), rfl⟩
theorem tb_891 : (Jvm.Cond.fieldLink "GraphWalkerModel" (60 : Nat) "GraphWalkerModel" "placeThings" "[I") ∈ gw_all := List.mem_filter.mpr ⟨List.mem_append_right _ (List.mem_of_getElem? (i := 891) (by decide +kernel)), rfl⟩
theorem tb_892 : (Jvm.Cond.fieldLink "GraphWalkerModel" (63 : Nat) "GraphWalkerModel" "placeNexts" "[I") ∈ gw_all := List.mem_filter.mpr ⟨List.mem_append_right _ (List.mem_of_getElem? (i := 892) (by decide +kernel)), rfl⟩
theorem tb_893 : (Jvm.Cond.fieldLink "GraphWalkerModel" (122 : Nat) "GraphWalkerModel" "length" "I") ∈ gw_all := List.mem_filter.mpr ⟨List.mem_append_right _ (List.mem_of_getElem? (i := 893) (by decide +kernel)), rfl⟩
theorem tb_894 : (Jvm.Cond.fieldLink "GraphWalkerModel" (125 : Nat) "GraphWalkerModel" "longest" "I") ∈ gw_all := List.mem_filter.mpr ⟨List.mem_append_right _ (List.mem_of_getElem? (i := 894) (by decide +kernel)), rfl⟩
theorem tb_895 : (Jvm.Cond.fieldLink "GraphWalkerModel" (66 : Nat) "GraphWalkerModel" "entries" "[I") ∈ gw_all := List.mem_filter.mpr ⟨List.mem_append_right _ (List.mem_of_getElem? (i := 895) (by decide +kernel)), rfl⟩
theorem tb_896 : (Jvm.Cond.fieldLink "GraphWalkerModel" (69 : Nat) "GraphWalkerModel" "entryThings" "[I") ∈ gw_all := List.mem_filter.mpr ⟨List.mem_append_right _ (List.mem_of_getElem? (i := 896) (by decide +kernel)), rfl⟩
theorem tb_897 : (Jvm.Cond.fieldLink "GraphWalkerModel" (72 : Nat) "GraphWalkerModel" "entryPlaces" "[I") ∈ gw_all := List.mem_filter.mpr ⟨List.mem_append_right _ (List.mem_of_getElem? (i := 897) (by decide +kernel)), rfl⟩
theorem tb_898 : (Jvm.Cond.fieldLink "GraphWalkerModel" (75 : Nat) "GraphWalkerModel" "entryNumbers" "[J") ∈ gw_all := List.mem_filter.mpr ⟨List.mem_append_right _ (List.mem_of_getElem? (i := 898) (by decide +kernel)), rfl⟩
theorem tb_899 : (Jvm.Cond.fieldLink "GraphWalkerModel" (148 : Nat) "GraphWalkerModel" "hand" "I") ∈ gw_all := List.mem_filter.mpr ⟨List.mem_append_right _ (List.mem_of_getElem? (i := 899) (by decide +kernel)), rfl⟩
theorem tb_900 : (Jvm.Cond.fieldLink "GraphWalkerModel" (151 : Nat) "GraphWalkerModel" "handTerm" "I") ∈ gw_all := List.mem_filter.mpr ⟨List.mem_append_right _ (List.mem_of_getElem? (i := 900) (by decide +kernel)), rfl⟩
theorem tb_901 : (Jvm.Cond.fieldLink "GraphWalkerModel" (154 : Nat) "GraphWalkerModel" "handPlaces" "I") ∈ gw_all := List.mem_filter.mpr ⟨List.mem_append_right _ (List.mem_of_getElem? (i := 901) (by decide +kernel)), rfl⟩
theorem tb_902 : (Jvm.Cond.fieldLink "GraphWalkerModel" (180 : Nat) "GraphWalkerModel" "handThing" "I") ∈ gw_all := List.mem_filter.mpr ⟨List.mem_append_right _ (List.mem_of_getElem? (i := 902) (by decide +kernel)), rfl⟩
theorem tb_903 : (Jvm.Cond.fieldLink "GraphWalkerModel" (157 : Nat) "GraphWalkerModel" "sort" "I") ∈ gw_all := List.mem_filter.mpr ⟨List.mem_append_right _ (List.mem_of_getElem? (i := 903) (by decide +kernel)), rfl⟩
theorem tb_904 : (Jvm.Cond.fieldLink "GraphWalkerModel" (160 : Nat) "GraphWalkerModel" "number" "J") ∈ gw_all := List.mem_filter.mpr ⟨List.mem_append_right _ (List.mem_of_getElem? (i := 904) (by decide +kernel)), rfl⟩
theorem tb_905 : (Jvm.Cond.fieldLink "GraphWalkerModel" (164 : Nat) "GraphWalkerModel" "left" "I") ∈ gw_all := List.mem_filter.mpr ⟨List.mem_append_right _ (List.mem_of_getElem? (i := 905) (by decide +kernel)), rfl⟩
theorem tb_906 : (Jvm.Cond.fieldLink "GraphWalkerModel" (167 : Nat) "GraphWalkerModel" "right" "I") ∈ gw_all := List.mem_filter.mpr ⟨List.mem_append_right _ (List.mem_of_getElem? (i := 906) (by decide +kernel)), rfl⟩
theorem tb_907 : (Jvm.Cond.fieldLink "GraphWalkerModel" (141 : Nat) "GraphWalkerModel" "outcome" "I") ∈ gw_all := List.mem_filter.mpr ⟨List.mem_append_right _ (List.mem_of_getElem? (i := 907) (by decide +kernel)), rfl⟩
theorem tb_908 : (Jvm.Cond.fieldLink "GraphWalkerModel" (137 : Nat) "GraphWalkerModel" "shares" "Z") ∈ gw_all := List.mem_filter.mpr ⟨List.mem_append_right _ (List.mem_of_getElem? (i := 908) (by decide +kernel)), rfl⟩
theorem tb_909 : (Jvm.Cond.fieldLink "GraphWalkerModel" (128 : Nat) "GraphWalkerModel" "steps" "I") ∈ gw_all := List.mem_filter.mpr ⟨List.mem_append_right _ (List.mem_of_getElem? (i := 909) (by decide +kernel)), rfl⟩
theorem tb_910 : (Jvm.Cond.fieldLink "GraphWalkerModel" (131 : Nat) "GraphWalkerModel" "needsDone" "I") ∈ gw_all := List.mem_filter.mpr ⟨List.mem_append_right _ (List.mem_of_getElem? (i := 910) (by decide +kernel)), rfl⟩
theorem tb_911 : (Jvm.Cond.fieldLink "GraphWalkerModel" (134 : Nat) "GraphWalkerModel" "needsWaiting" "I") ∈ gw_all := List.mem_filter.mpr ⟨List.mem_append_right _ (List.mem_of_getElem? (i := 911) (by decide +kernel)), rfl⟩
theorem tb_912 : (Jvm.Cond.fieldLink "GraphWalkerModel" (193 : Nat) "GraphWalkerModel" "ringThing" "I") ∈ gw_all := List.mem_filter.mpr ⟨List.mem_append_right _ (List.mem_of_getElem? (i := 912) (by decide +kernel)), rfl⟩
theorem tb_913 : (Jvm.Cond.fieldLink "GraphWalkerModel" (170 : Nat) "GraphWalkerModel" "often" "I") ∈ gw_all := List.mem_filter.mpr ⟨List.mem_append_right _ (List.mem_of_getElem? (i := 913) (by decide +kernel)), rfl⟩
theorem tb_914 : (Jvm.Cond.fieldLink "GraphWalkerModel" (87 : Nat) "GraphWalkerModel" "code" "I") ∈ gw_all := List.mem_filter.mpr ⟨List.mem_append_right _ (List.mem_of_getElem? (i := 914) (by decide +kernel)), rfl⟩
theorem tb_915 : (Jvm.Cond.fieldLink "GraphWalkerModel" (78 : Nat) "GraphWalkerModel" "reached" "[Z") ∈ gw_all := List.mem_filter.mpr ⟨List.mem_append_right _ (List.mem_of_getElem? (i := 915) (by decide +kernel)), rfl⟩
theorem tb_916 : (Jvm.Cond.fieldLink "GraphWalkerModel" (81 : Nat) "GraphWalkerModel" "walked" "[Z") ∈ gw_all := List.mem_filter.mpr ⟨List.mem_append_right _ (List.mem_of_getElem? (i := 916) (by decide +kernel)), rfl⟩
theorem tb_917 : (Jvm.Cond.fieldLink "GraphWalkerModel" (84 : Nat) "GraphWalkerModel" "line" "[I") ∈ gw_all := List.mem_filter.mpr ⟨List.mem_append_right _ (List.mem_of_getElem? (i := 917) (by decide +kernel)), rfl⟩
theorem tb_918 : (Jvm.Cond.fieldLink "GraphWalkerModel" (233 : Nat) "GraphWalkerModel" "lined" "I") ∈ gw_all := List.mem_filter.mpr ⟨List.mem_append_right _ (List.mem_of_getElem? (i := 918) (by decide +kernel)), rfl⟩
theorem tb_1025 : (Jvm.Cond.methodLink "GraphWalkerModel" (94 : Nat) ({ cls := "GraphWalkerModel", name := "thrownBy", desc := "(I)I" } : Jvm.MethodName)) ∈ gw_all := List.mem_filter.mpr ⟨List.mem_append_right _ (List.mem_of_getElem? (i := 1025) (by decide +kernel)), rfl⟩
theorem tb_1027 : (Jvm.Cond.instanceMethod ({ cls := "GraphWalkerModel", name := "thrownBy", desc := "(I)I" } : Jvm.MethodName)) ∈ gw_all := List.mem_filter.mpr ⟨List.mem_append_right _ (List.mem_of_getElem? (i := 1027) (by decide +kernel)), rfl⟩
theorem tb_1028 : (Jvm.Cond.code ({ cls := "GraphWalkerModel", name := "thrownBy", desc := "(I)I" } : Jvm.MethodName) prog_9_method_4_code (2 : Nat) (Option.some Jvm.ClassFile.FieldType.int)) ∈ gw_T := List.mem_filter.mpr ⟨List.mem_append_right _ (List.mem_of_getElem? (i := 1028) (by decide +kernel)), rfl⟩
theorem tb_1029 : (Jvm.Cond.methodLink "GraphWalkerModel" (98 : Nat) ({ cls := "GraphWalkerModel", name := "term", desc := "(IIII)I" } : Jvm.MethodName)) ∈ gw_all := List.mem_filter.mpr ⟨List.mem_append_right _ (List.mem_of_getElem? (i := 1029) (by decide +kernel)), rfl⟩
theorem tb_1031 : (Jvm.Cond.instanceMethod ({ cls := "GraphWalkerModel", name := "term", desc := "(IIII)I" } : Jvm.MethodName)) ∈ gw_all := List.mem_filter.mpr ⟨List.mem_append_right _ (List.mem_of_getElem? (i := 1031) (by decide +kernel)), rfl⟩
theorem tb_1032 : (Jvm.Cond.code ({ cls := "GraphWalkerModel", name := "term", desc := "(IIII)I" } : Jvm.MethodName) prog_9_method_5_code (5 : Nat) (Option.some Jvm.ClassFile.FieldType.int)) ∈ gw_T := List.mem_filter.mpr ⟨List.mem_append_right _ (List.mem_of_getElem? (i := 1032) (by decide +kernel)), rfl⟩
theorem tb_1041 : (Jvm.Cond.methodLink "GraphWalkerModel" (102 : Nat) ({ cls := "GraphWalkerModel", name := "isTerm", desc := "(I)Z" } : Jvm.MethodName)) ∈ gw_all := List.mem_filter.mpr ⟨List.mem_append_right _ (List.mem_of_getElem? (i := 1041) (by decide +kernel)), rfl⟩
theorem tb_1043 : (Jvm.Cond.instanceMethod ({ cls := "GraphWalkerModel", name := "isTerm", desc := "(I)Z" } : Jvm.MethodName)) ∈ gw_all := List.mem_filter.mpr ⟨List.mem_append_right _ (List.mem_of_getElem? (i := 1043) (by decide +kernel)), rfl⟩
theorem tb_1044 : (Jvm.Cond.code ({ cls := "GraphWalkerModel", name := "isTerm", desc := "(I)Z" } : Jvm.MethodName) prog_9_method_3_code (2 : Nat) (Option.some Jvm.ClassFile.FieldType.boolean)) ∈ gw_T := List.mem_filter.mpr ⟨List.mem_append_right _ (List.mem_of_getElem? (i := 1044) (by decide +kernel)), rfl⟩
theorem tb_1045 : (Jvm.Cond.methodLink "GraphWalkerModel" (106 : Nat) ({ cls := "GraphWalkerModel", name := "lessOne", desc := "(I)I" } : Jvm.MethodName)) ∈ gw_all := List.mem_filter.mpr ⟨List.mem_append_right _ (List.mem_of_getElem? (i := 1045) (by decide +kernel)), rfl⟩
theorem tb_1046 : (Jvm.Cond.static ({ cls := "GraphWalkerModel", name := "lessOne", desc := "(I)I" } : Jvm.MethodName)) ∈ gw_all := List.mem_filter.mpr ⟨List.mem_append_right _ (List.mem_of_getElem? (i := 1046) (by decide +kernel)), rfl⟩
theorem tb_1047 : (Jvm.Cond.code ({ cls := "GraphWalkerModel", name := "lessOne", desc := "(I)I" } : Jvm.MethodName) prog_9_method_7_code (1 : Nat) (Option.some Jvm.ClassFile.FieldType.int)) ∈ gw_T := List.mem_filter.mpr ⟨List.mem_append_right _ (List.mem_of_getElem? (i := 1047) (by decide +kernel)), rfl⟩
theorem tb_1052 : (Jvm.Cond.methodLink "GraphWalkerModel" (109 : Nat) ({ cls := "GraphWalkerModel", name := "more", desc := "(II)I" } : Jvm.MethodName)) ∈ gw_all := List.mem_filter.mpr ⟨List.mem_append_right _ (List.mem_of_getElem? (i := 1052) (by decide +kernel)), rfl⟩
theorem tb_1053 : (Jvm.Cond.static ({ cls := "GraphWalkerModel", name := "more", desc := "(II)I" } : Jvm.MethodName)) ∈ gw_all := List.mem_filter.mpr ⟨List.mem_append_right _ (List.mem_of_getElem? (i := 1053) (by decide +kernel)), rfl⟩
theorem tb_1054 : (Jvm.Cond.code ({ cls := "GraphWalkerModel", name := "more", desc := "(II)I" } : Jvm.MethodName) prog_9_method_6_code (2 : Nat) (Option.some Jvm.ClassFile.FieldType.int)) ∈ gw_T := List.mem_filter.mpr ⟨List.mem_append_right _ (List.mem_of_getElem? (i := 1054) (by decide +kernel)), rfl⟩
theorem tb_1067 : (Jvm.Cond.methodLink "GraphWalkerModel" (144 : Nat) ({ cls := "GraphWalkerModel", name := "atHand", desc := "(II)V" } : Jvm.MethodName)) ∈ gw_all := List.mem_filter.mpr ⟨List.mem_append_right _ (List.mem_of_getElem? (i := 1067) (by decide +kernel)), rfl⟩
theorem tb_1069 : (Jvm.Cond.instanceMethod ({ cls := "GraphWalkerModel", name := "atHand", desc := "(II)V" } : Jvm.MethodName)) ∈ gw_all := List.mem_filter.mpr ⟨List.mem_append_right _ (List.mem_of_getElem? (i := 1069) (by decide +kernel)), rfl⟩
theorem tb_1070 : (Jvm.Cond.code ({ cls := "GraphWalkerModel", name := "atHand", desc := "(II)V" } : Jvm.MethodName) prog_9_method_15_code (3 : Nat) (Option.none : Option Jvm.ClassFile.FieldType)) ∈ gw_T := List.mem_filter.mpr ⟨List.mem_append_right _ (List.mem_of_getElem? (i := 1070) (by decide +kernel)), rfl⟩
theorem tb_1075 : (Jvm.Cond.methodLink "GraphWalkerModel" (173 : Nat) ({ cls := "GraphWalkerModel", name := "sweep", desc := "()I" } : Jvm.MethodName)) ∈ gw_all := List.mem_filter.mpr ⟨List.mem_append_right _ (List.mem_of_getElem? (i := 1075) (by decide +kernel)), rfl⟩
theorem tb_1077 : (Jvm.Cond.instanceMethod ({ cls := "GraphWalkerModel", name := "sweep", desc := "()I" } : Jvm.MethodName)) ∈ gw_all := List.mem_filter.mpr ⟨List.mem_append_right _ (List.mem_of_getElem? (i := 1077) (by decide +kernel)), rfl⟩
theorem tb_1078 : (Jvm.Cond.code ({ cls := "GraphWalkerModel", name := "sweep", desc := "()I" } : Jvm.MethodName) prog_9_method_45_code (3 : Nat) (Option.some Jvm.ClassFile.FieldType.int)) ∈ gw_T := List.mem_filter.mpr ⟨List.mem_append_right _ (List.mem_of_getElem? (i := 1078) (by decide +kernel)), rfl⟩
theorem tb_1079 : (Jvm.Cond.methodLink "GraphWalkerModel" (247 : Nat) ({ cls := "GraphWalkerModel", name := "reachHand", desc := "()V" } : Jvm.MethodName)) ∈ gw_all := List.mem_filter.mpr ⟨List.mem_append_right _ (List.mem_of_getElem? (i := 1079) (by decide +kernel)), rfl⟩
theorem tb_1081 : (Jvm.Cond.instanceMethod ({ cls := "GraphWalkerModel", name := "reachHand", desc := "()V" } : Jvm.MethodName)) ∈ gw_all := List.mem_filter.mpr ⟨List.mem_append_right _ (List.mem_of_getElem? (i := 1081) (by decide +kernel)), rfl⟩
theorem tb_1082 : (Jvm.Cond.code ({ cls := "GraphWalkerModel", name := "reachHand", desc := "()V" } : Jvm.MethodName) prog_9_method_44_code (2 : Nat) (Option.none : Option Jvm.ClassFile.FieldType)) ∈ gw_T := List.mem_filter.mpr ⟨List.mem_append_right _ (List.mem_of_getElem? (i := 1082) (by decide +kernel)), rfl⟩
theorem tb_1083 : (Jvm.Cond.methodLink "GraphWalkerModel" (240 : Nat) ({ cls := "GraphWalkerModel", name := "reachPlaces", desc := "(I)V" } : Jvm.MethodName)) ∈ gw_all := List.mem_filter.mpr ⟨List.mem_append_right _ (List.mem_of_getElem? (i := 1083) (by decide +kernel)), rfl⟩
theorem tb_1085 : (Jvm.Cond.instanceMethod ({ cls := "GraphWalkerModel", name := "reachPlaces", desc := "(I)V" } : Jvm.MethodName)) ∈ gw_all := List.mem_filter.mpr ⟨List.mem_append_right _ (List.mem_of_getElem? (i := 1085) (by decide +kernel)), rfl⟩
theorem tb_1086 : (Jvm.Cond.code ({ cls := "GraphWalkerModel", name := "reachPlaces", desc := "(I)V" } : Jvm.MethodName) prog_9_method_42_code (3 : Nat) (Option.none : Option Jvm.ClassFile.FieldType)) ∈ gw_T := List.mem_filter.mpr ⟨List.mem_append_right _ (List.mem_of_getElem? (i := 1086) (by decide +kernel)), rfl⟩
theorem tb_1087 : (Jvm.Cond.methodLink "GraphWalkerModel" (236 : Nat) ({ cls := "GraphWalkerModel", name := "reach", desc := "(I)V" } : Jvm.MethodName)) ∈ gw_all := List.mem_filter.mpr ⟨List.mem_append_right _ (List.mem_of_getElem? (i := 1087) (by decide +kernel)), rfl⟩
theorem tb_1089 : (Jvm.Cond.instanceMethod ({ cls := "GraphWalkerModel", name := "reach", desc := "(I)V" } : Jvm.MethodName)) ∈ gw_all := List.mem_filter.mpr ⟨List.mem_append_right _ (List.mem_of_getElem? (i := 1089) (by decide +kernel)), rfl⟩
theorem tb_1090 : (Jvm.Cond.code ({ cls := "GraphWalkerModel", name := "reach", desc := "(I)V" } : Jvm.MethodName) prog_9_method_41_code (2 : Nat) (Option.none : Option Jvm.ClassFile.FieldType)) ∈ gw_T := List.mem_filter.mpr ⟨List.mem_append_right _ (List.mem_of_getElem? (i := 1090) (by decide +kernel)), rfl⟩
theorem tb_1091 : (Jvm.Cond.methodLink "GraphWalkerModel" (243 : Nat) ({ cls := "GraphWalkerModel", name := "reachValue", desc := "(III)V" } : Jvm.MethodName)) ∈ gw_all := List.mem_filter.mpr ⟨List.mem_append_right _ (List.mem_of_getElem? (i := 1091) (by decide +kernel)), rfl⟩
theorem tb_1093 : (Jvm.Cond.instanceMethod ({ cls := "GraphWalkerModel", name := "reachValue", desc := "(III)V" } : Jvm.MethodName)) ∈ gw_all := List.mem_filter.mpr ⟨List.mem_append_right _ (List.mem_of_getElem? (i := 1093) (by decide +kernel)), rfl⟩
theorem tb_1094 : (Jvm.Cond.code ({ cls := "GraphWalkerModel", name := "reachValue", desc := "(III)V" } : Jvm.MethodName) prog_9_method_43_code (4 : Nat) (Option.none : Option Jvm.ClassFile.FieldType)) ∈ gw_T := List.mem_filter.mpr ⟨List.mem_append_right _ (List.mem_of_getElem? (i := 1094) (by decide +kernel)), rfl⟩
theorem tb_1095 : (Jvm.Cond.methodLink "GraphWalkerModel" (177 : Nat) ({ cls := "GraphWalkerModel", name := "step", desc := "()V" } : Jvm.MethodName)) ∈ gw_all := List.mem_filter.mpr ⟨List.mem_append_right _ (List.mem_of_getElem? (i := 1095) (by decide +kernel)), rfl⟩
theorem tb_1097 : (Jvm.Cond.instanceMethod ({ cls := "GraphWalkerModel", name := "step", desc := "()V" } : Jvm.MethodName)) ∈ gw_all := List.mem_filter.mpr ⟨List.mem_append_right _ (List.mem_of_getElem? (i := 1097) (by decide +kernel)), rfl⟩
theorem tb_1098 : (Jvm.Cond.code ({ cls := "GraphWalkerModel", name := "step", desc := "()V" } : Jvm.MethodName) prog_9_method_18_code (1 : Nat) (Option.none : Option Jvm.ClassFile.FieldType)) ∈ gw_T := List.mem_filter.mpr ⟨List.mem_append_right _ (List.mem_of_getElem? (i := 1098) (by decide +kernel)), rfl⟩
theorem tb_1099 : (Jvm.Cond.methodLink "GraphWalkerModel" (183 : Nat) ({ cls := "GraphWalkerModel", name := "need", desc := "(IZ)V" } : Jvm.MethodName)) ∈ gw_all := List.mem_filter.mpr ⟨List.mem_append_right _ (List.mem_of_getElem? (i := 1099) (by decide +kernel)), rfl⟩
theorem tb_1101 : (Jvm.Cond.instanceMethod ({ cls := "GraphWalkerModel", name := "need", desc := "(IZ)V" } : Jvm.MethodName)) ∈ gw_all := List.mem_filter.mpr ⟨List.mem_append_right _ (List.mem_of_getElem? (i := 1101) (by decide +kernel)), rfl⟩
theorem tb_1102 : (Jvm.Cond.code ({ cls := "GraphWalkerModel", name := "need", desc := "(IZ)V" } : Jvm.MethodName) prog_9_method_19_code (4 : Nat) (Option.none : Option Jvm.ClassFile.FieldType)) ∈ gw_T := List.mem_filter.mpr ⟨List.mem_append_right _ (List.mem_of_getElem? (i := 1102) (by decide +kernel)), rfl⟩
theorem tb_1103 : (Jvm.Cond.methodLink "GraphWalkerModel" (196 : Nat) ({ cls := "GraphWalkerModel", name := "valueAtHand", desc := "(IJII)V" } : Jvm.MethodName)) ∈ gw_all := List.mem_filter.mpr ⟨List.mem_append_right _ (List.mem_of_getElem? (i := 1103) (by decide +kernel)), rfl⟩
theorem tb_1105 : (Jvm.Cond.instanceMethod ({ cls := "GraphWalkerModel", name := "valueAtHand", desc := "(IJII)V" } : Jvm.MethodName)) ∈ gw_all := List.mem_filter.mpr ⟨List.mem_append_right _ (List.mem_of_getElem? (i := 1105) (by decide +kernel)), rfl⟩
theorem tb_1106 : (Jvm.Cond.code ({ cls := "GraphWalkerModel", name := "valueAtHand", desc := "(IJII)V" } : Jvm.MethodName) prog_9_method_16_code (6 : Nat) (Option.none : Option Jvm.ClassFile.FieldType)) ∈ gw_T := List.mem_filter.mpr ⟨List.mem_append_right _ (List.mem_of_getElem? (i := 1106) (by decide +kernel)), rfl⟩
theorem tb_1107 : (Jvm.Cond.methodLink "GraphWalkerModel" (200 : Nat) ({ cls := "GraphWalkerModel", name := "latestInWork", desc := "()I" } : Jvm.MethodName)) ∈ gw_all := List.mem_filter.mpr ⟨List.mem_append_right _ (List.mem_of_getElem? (i := 1107) (by decide +kernel)), rfl⟩
theorem tb_1109 : (Jvm.Cond.instanceMethod ({ cls := "GraphWalkerModel", name := "latestInWork", desc := "()I" } : Jvm.MethodName)) ∈ gw_all := List.mem_filter.mpr ⟨List.mem_append_right _ (List.mem_of_getElem? (i := 1109) (by decide +kernel)), rfl⟩
theorem tb_1110 : (Jvm.Cond.code ({ cls := "GraphWalkerModel", name := "latestInWork", desc := "()I" } : Jvm.MethodName) prog_9_method_20_code (2 : Nat) (Option.some Jvm.ClassFile.FieldType.int)) ∈ gw_T := List.mem_filter.mpr ⟨List.mem_append_right _ (List.mem_of_getElem? (i := 1110) (by decide +kernel)), rfl⟩
theorem tb_1111 : (Jvm.Cond.methodLink "GraphWalkerModel" (203 : Nat) ({ cls := "GraphWalkerModel", name := "push", desc := "(IIIJ)V" } : Jvm.MethodName)) ∈ gw_all := List.mem_filter.mpr ⟨List.mem_append_right _ (List.mem_of_getElem? (i := 1111) (by decide +kernel)), rfl⟩
theorem tb_1113 : (Jvm.Cond.instanceMethod ({ cls := "GraphWalkerModel", name := "push", desc := "(IIIJ)V" } : Jvm.MethodName)) ∈ gw_all := List.mem_filter.mpr ⟨List.mem_append_right _ (List.mem_of_getElem? (i := 1113) (by decide +kernel)), rfl⟩
theorem tb_1114 : (Jvm.Cond.code ({ cls := "GraphWalkerModel", name := "push", desc := "(IIIJ)V" } : Jvm.MethodName) prog_9_method_21_code (6 : Nat) (Option.none : Option Jvm.ClassFile.FieldType)) ∈ gw_T := List.mem_filter.mpr ⟨List.mem_append_right _ (List.mem_of_getElem? (i := 1114) (by decide +kernel)), rfl⟩
theorem tb_1115 : (Jvm.Cond.methodLink "GraphWalkerModel" (187 : Nat) ({ cls := "GraphWalkerModel", name := "goOnWithTerm", desc := "()V" } : Jvm.MethodName)) ∈ gw_all := List.mem_filter.mpr ⟨List.mem_append_right _ (List.mem_of_getElem? (i := 1115) (by decide +kernel)), rfl⟩
theorem tb_1117 : (Jvm.Cond.instanceMethod ({ cls := "GraphWalkerModel", name := "goOnWithTerm", desc := "()V" } : Jvm.MethodName)) ∈ gw_all := List.mem_filter.mpr ⟨List.mem_append_right _ (List.mem_of_getElem? (i := 1117) (by decide +kernel)), rfl⟩
theorem tb_1118 : (Jvm.Cond.code ({ cls := "GraphWalkerModel", name := "goOnWithTerm", desc := "()V" } : Jvm.MethodName) prog_9_method_28_code (5 : Nat) (Option.none : Option Jvm.ClassFile.FieldType)) ∈ gw_T := List.mem_filter.mpr ⟨List.mem_append_right _ (List.mem_of_getElem? (i := 1118) (by decide +kernel)), rfl⟩
theorem tb_1119 : (Jvm.Cond.methodLink "GraphWalkerModel" (213 : Nat) ({ cls := "GraphWalkerModel", name := "thingOfPlace", desc := "(II)I" } : Jvm.MethodName)) ∈ gw_all := List.mem_filter.mpr ⟨List.mem_append_right _ (List.mem_of_getElem? (i := 1119) (by decide +kernel)), rfl⟩
theorem tb_1121 : (Jvm.Cond.instanceMethod ({ cls := "GraphWalkerModel", name := "thingOfPlace", desc := "(II)I" } : Jvm.MethodName)) ∈ gw_all := List.mem_filter.mpr ⟨List.mem_append_right _ (List.mem_of_getElem? (i := 1121) (by decide +kernel)), rfl⟩
theorem tb_1122 : (Jvm.Cond.code ({ cls := "GraphWalkerModel", name := "thingOfPlace", desc := "(II)I" } : Jvm.MethodName) prog_9_method_22_code (5 : Nat) (Option.some Jvm.ClassFile.FieldType.int)) ∈ gw_T := List.mem_filter.mpr ⟨List.mem_append_right _ (List.mem_of_getElem? (i := 1122) (by decide +kernel)), rfl⟩
theorem tb_1123 : (Jvm.Cond.methodLink "GraphWalkerModel" (207 : Nat) ({ cls := "GraphWalkerModel", name := "isNew", desc := "(I)Z" } : Jvm.MethodName)) ∈ gw_all := List.mem_filter.mpr ⟨List.mem_append_right _ (List.mem_of_getElem? (i := 1123) (by decide +kernel)), rfl⟩
theorem tb_1125 : (Jvm.Cond.instanceMethod ({ cls := "GraphWalkerModel", name := "isNew", desc := "(I)Z" } : Jvm.MethodName)) ∈ gw_all := List.mem_filter.mpr ⟨List.mem_append_right _ (List.mem_of_getElem? (i := 1125) (by decide +kernel)), rfl⟩
theorem tb_1126 : (Jvm.Cond.code ({ cls := "GraphWalkerModel", name := "isNew", desc := "(I)Z" } : Jvm.MethodName) prog_9_method_23_code (2 : Nat) (Option.some Jvm.ClassFile.FieldType.boolean)) ∈ gw_T := List.mem_filter.mpr ⟨List.mem_append_right _ (List.mem_of_getElem? (i := 1126) (by decide +kernel)), rfl⟩
theorem tb_1127 : (Jvm.Cond.methodLink "GraphWalkerModel" (216 : Nat) ({ cls := "GraphWalkerModel", name := "hasRoom", desc := "(III)Z" } : Jvm.MethodName)) ∈ gw_all := List.mem_filter.mpr ⟨List.mem_append_right _ (List.mem_of_getElem? (i := 1127) (by decide +kernel)), rfl⟩
theorem tb_1129 : (Jvm.Cond.instanceMethod ({ cls := "GraphWalkerModel", name := "hasRoom", desc := "(III)Z" } : Jvm.MethodName)) ∈ gw_all := List.mem_filter.mpr ⟨List.mem_append_right _ (List.mem_of_getElem? (i := 1129) (by decide +kernel)), rfl⟩
theorem tb_1130 : (Jvm.Cond.code ({ cls := "GraphWalkerModel", name := "hasRoom", desc := "(III)Z" } : Jvm.MethodName) prog_9_method_27_code (5 : Nat) (Option.some Jvm.ClassFile.FieldType.boolean)) ∈ gw_T := List.mem_filter.mpr ⟨List.mem_append_right _ (List.mem_of_getElem? (i := 1130) (by decide +kernel)), rfl⟩
theorem tb_1131 : (Jvm.Cond.methodLink "GraphWalkerModel" (220 : Nat) ({ cls := "GraphWalkerModel", name := "thingOf", desc := "(I)I" } : Jvm.MethodName)) ∈ gw_all := List.mem_filter.mpr ⟨List.mem_append_right _ (List.mem_of_getElem? (i := 1131) (by decide +kernel)), rfl⟩
theorem tb_1133 : (Jvm.Cond.instanceMethod ({ cls := "GraphWalkerModel", name := "thingOf", desc := "(I)I" } : Jvm.MethodName)) ∈ gw_all := List.mem_filter.mpr ⟨List.mem_append_right _ (List.mem_of_getElem? (i := 1133) (by decide +kernel)), rfl⟩
theorem tb_1134 : (Jvm.Cond.code ({ cls := "GraphWalkerModel", name := "thingOf", desc := "(I)I" } : Jvm.MethodName) prog_9_method_24_code (2 : Nat) (Option.some Jvm.ClassFile.FieldType.int)) ∈ gw_T := List.mem_filter.mpr ⟨List.mem_append_right _ (List.mem_of_getElem? (i := 1134) (by decide +kernel)), rfl⟩
theorem tb_1135 : (Jvm.Cond.methodLink "GraphWalkerModel" (210 : Nat) ({ cls := "GraphWalkerModel", name := "newThing", desc := "(II)I" } : Jvm.MethodName)) ∈ gw_all := List.mem_filter.mpr ⟨List.mem_append_right _ (List.mem_of_getElem? (i := 1135) (by decide +kernel)), rfl⟩
theorem tb_1137 : (Jvm.Cond.instanceMethod ({ cls := "GraphWalkerModel", name := "newThing", desc := "(II)I" } : Jvm.MethodName)) ∈ gw_all := List.mem_filter.mpr ⟨List.mem_append_right _ (List.mem_of_getElem? (i := 1137) (by decide +kernel)), rfl⟩
theorem tb_1138 : (Jvm.Cond.code ({ cls := "GraphWalkerModel", name := "newThing", desc := "(II)I" } : Jvm.MethodName) prog_9_method_25_code (3 : Nat) (Option.some Jvm.ClassFile.FieldType.int)) ∈ gw_T := List.mem_filter.mpr ⟨List.mem_append_right _ (List.mem_of_getElem? (i := 1138) (by decide +kernel)), rfl⟩
theorem tb_1139 : (Jvm.Cond.methodLink "GraphWalkerModel" (223 : Nat) ({ cls := "GraphWalkerModel", name := "newPlace", desc := "(II)I" } : Jvm.MethodName)) ∈ gw_all := List.mem_filter.mpr ⟨List.mem_append_right _ (List.mem_of_getElem? (i := 1139) (by decide +kernel)), rfl⟩
theorem tb_1141 : (Jvm.Cond.instanceMethod ({ cls := "GraphWalkerModel", name := "newPlace", desc := "(II)I" } : Jvm.MethodName)) ∈ gw_all := List.mem_filter.mpr ⟨List.mem_append_right _ (List.mem_of_getElem? (i := 1141) (by decide +kernel)), rfl⟩
theorem tb_1142 : (Jvm.Cond.code ({ cls := "GraphWalkerModel", name := "newPlace", desc := "(II)I" } : Jvm.MethodName) prog_9_method_26_code (3 : Nat) (Option.some Jvm.ClassFile.FieldType.int)) ∈ gw_T := List.mem_filter.mpr ⟨List.mem_append_right _ (List.mem_of_getElem? (i := 1142) (by decide +kernel)), rfl⟩
theorem tb_1143 : (Jvm.Cond.methodLink "GraphWalkerModel" (190 : Nat) ({ cls := "GraphWalkerModel", name := "goOnWithValue", desc := "()V" } : Jvm.MethodName)) ∈ gw_all := List.mem_filter.mpr ⟨List.mem_append_right _ (List.mem_of_getElem? (i := 1143) (by decide +kernel)), rfl⟩
theorem tb_1145 : (Jvm.Cond.instanceMethod ({ cls := "GraphWalkerModel", name := "goOnWithValue", desc := "()V" } : Jvm.MethodName)) ∈ gw_all := List.mem_filter.mpr ⟨List.mem_append_right _ (List.mem_of_getElem? (i := 1145) (by decide +kernel)), rfl⟩
theorem tb_1146 : (Jvm.Cond.code ({ cls := "GraphWalkerModel", name := "goOnWithValue", desc := "()V" } : Jvm.MethodName) prog_9_method_29_code (4 : Nat) (Option.none : Option Jvm.ClassFile.FieldType)) ∈ gw_T := List.mem_filter.mpr ⟨List.mem_append_right _ (List.mem_of_getElem? (i := 1146) (by decide +kernel)), rfl⟩
theorem tb_1147 : (Jvm.Cond.methodLink "GraphWalkerModel" (226 : Nat) ({ cls := "GraphWalkerModel", name := "act", desc := "(IJJ)V" } : Jvm.MethodName)) ∈ gw_all := List.mem_filter.mpr ⟨List.mem_append_right _ (List.mem_of_getElem? (i := 1147) (by decide +kernel)), rfl⟩
theorem tb_1149 : (Jvm.Cond.instanceMethod ({ cls := "GraphWalkerModel", name := "act", desc := "(IJJ)V" } : Jvm.MethodName)) ∈ gw_all := List.mem_filter.mpr ⟨List.mem_append_right _ (List.mem_of_getElem? (i := 1149) (by decide +kernel)), rfl⟩
theorem tb_1150 : (Jvm.Cond.code ({ cls := "GraphWalkerModel", name := "act", desc := "(IJJ)V" } : Jvm.MethodName) prog_9_method_30_code (8 : Nat) (Option.none : Option Jvm.ClassFile.FieldType)) ∈ gw_T := List.mem_filter.mpr ⟨List.mem_append_right _ (List.mem_of_getElem? (i := 1150) (by decide +kernel)), rfl⟩
theorem tb_1175 : (Jvm.Cond.methodLink "GraphWalkerModel" (230 : Nat) ({ cls := "GraphWalkerModel", name := "isThing", desc := "(I)Z" } : Jvm.MethodName)) ∈ gw_all := List.mem_filter.mpr ⟨List.mem_append_right _ (List.mem_of_getElem? (i := 1175) (by decide +kernel)), rfl⟩
theorem tb_1177 : (Jvm.Cond.instanceMethod ({ cls := "GraphWalkerModel", name := "isThing", desc := "(I)Z" } : Jvm.MethodName)) ∈ gw_all := List.mem_filter.mpr ⟨List.mem_append_right _ (List.mem_of_getElem? (i := 1177) (by decide +kernel)), rfl⟩
theorem tb_1178 : (Jvm.Cond.code ({ cls := "GraphWalkerModel", name := "isThing", desc := "(I)Z" } : Jvm.MethodName) prog_9_method_36_code (2 : Nat) (Option.some Jvm.ClassFile.FieldType.boolean)) ∈ gw_T := List.mem_filter.mpr ⟨List.mem_append_right _ (List.mem_of_getElem? (i := 1178) (by decide +kernel)), rfl⟩
theorem sl_Mo_act : Cond.selects R_Mo y_Mo_act y_Mo_act ∈ gw_all := List.mem_filter.mpr ⟨List.mem_append_left _ (List.mem_of_getElem? (i := 49) (by decide +kernel)), rfl⟩
theorem sl_Mo_atHand : Cond.selects R_Mo y_Mo_atHand y_Mo_atHand ∈ gw_all := List.mem_filter.mpr ⟨List.mem_append_left _ (List.mem_of_getElem? (i := 30) (by decide +kernel)), rfl⟩
theorem sl_Mo_goOnWithTerm : Cond.selects R_Mo y_Mo_goOnWithTerm y_Mo_goOnWithTerm ∈ gw_all := List.mem_filter.mpr ⟨List.mem_append_left _ (List.mem_of_getElem? (i := 41) (by decide +kernel)), rfl⟩
theorem sl_Mo_goOnWithValue : Cond.selects R_Mo y_Mo_goOnWithValue y_Mo_goOnWithValue ∈ gw_all := List.mem_filter.mpr ⟨List.mem_append_left _ (List.mem_of_getElem? (i := 48) (by decide +kernel)), rfl⟩
theorem sl_Mo_hasRoom : Cond.selects R_Mo y_Mo_hasRoom y_Mo_hasRoom ∈ gw_all := List.mem_filter.mpr ⟨List.mem_append_left _ (List.mem_of_getElem? (i := 44) (by decide +kernel)), rfl⟩
theorem sl_Mo_isNew : Cond.selects R_Mo y_Mo_isNew y_Mo_isNew ∈ gw_all := List.mem_filter.mpr ⟨List.mem_append_left _ (List.mem_of_getElem? (i := 43) (by decide +kernel)), rfl⟩
theorem sl_Mo_isTerm : Cond.selects R_Mo y_Mo_isTerm y_Mo_isTerm ∈ gw_all := List.mem_filter.mpr ⟨List.mem_append_left _ (List.mem_of_getElem? (i := 29) (by decide +kernel)), rfl⟩
theorem sl_Mo_isThing : Cond.selects R_Mo y_Mo_isThing y_Mo_isThing ∈ gw_all := List.mem_filter.mpr ⟨List.mem_append_left _ (List.mem_of_getElem? (i := 50) (by decide +kernel)), rfl⟩
theorem sl_Mo_latestInWork : Cond.selects R_Mo y_Mo_latestInWork y_Mo_latestInWork ∈ gw_all := List.mem_filter.mpr ⟨List.mem_append_left _ (List.mem_of_getElem? (i := 39) (by decide +kernel)), rfl⟩
theorem sl_Mo_need : Cond.selects R_Mo y_Mo_need y_Mo_need ∈ gw_all := List.mem_filter.mpr ⟨List.mem_append_left _ (List.mem_of_getElem? (i := 37) (by decide +kernel)), rfl⟩
theorem sl_Mo_newPlace : Cond.selects R_Mo y_Mo_newPlace y_Mo_newPlace ∈ gw_all := List.mem_filter.mpr ⟨List.mem_append_left _ (List.mem_of_getElem? (i := 47) (by decide +kernel)), rfl⟩
theorem sl_Mo_newThing : Cond.selects R_Mo y_Mo_newThing y_Mo_newThing ∈ gw_all := List.mem_filter.mpr ⟨List.mem_append_left _ (List.mem_of_getElem? (i := 46) (by decide +kernel)), rfl⟩
theorem sl_Mo_push : Cond.selects R_Mo y_Mo_push y_Mo_push ∈ gw_all := List.mem_filter.mpr ⟨List.mem_append_left _ (List.mem_of_getElem? (i := 40) (by decide +kernel)), rfl⟩
theorem sl_Mo_reach : Cond.selects R_Mo y_Mo_reach y_Mo_reach ∈ gw_all := List.mem_filter.mpr ⟨List.mem_append_left _ (List.mem_of_getElem? (i := 34) (by decide +kernel)), rfl⟩
theorem sl_Mo_reachHand : Cond.selects R_Mo y_Mo_reachHand y_Mo_reachHand ∈ gw_all := List.mem_filter.mpr ⟨List.mem_append_left _ (List.mem_of_getElem? (i := 32) (by decide +kernel)), rfl⟩
theorem sl_Mo_reachPlaces : Cond.selects R_Mo y_Mo_reachPlaces y_Mo_reachPlaces ∈ gw_all := List.mem_filter.mpr ⟨List.mem_append_left _ (List.mem_of_getElem? (i := 33) (by decide +kernel)), rfl⟩
theorem sl_Mo_reachValue : Cond.selects R_Mo y_Mo_reachValue y_Mo_reachValue ∈ gw_all := List.mem_filter.mpr ⟨List.mem_append_left _ (List.mem_of_getElem? (i := 35) (by decide +kernel)), rfl⟩
theorem sl_Mo_step : Cond.selects R_Mo y_Mo_step y_Mo_step ∈ gw_all := List.mem_filter.mpr ⟨List.mem_append_left _ (List.mem_of_getElem? (i := 36) (by decide +kernel)), rfl⟩
theorem sl_Mo_sweep : Cond.selects R_Mo y_Mo_sweep y_Mo_sweep ∈ gw_all := List.mem_filter.mpr ⟨List.mem_append_left _ (List.mem_of_getElem? (i := 31) (by decide +kernel)), rfl⟩
theorem sl_Mo_term : Cond.selects R_Mo y_Mo_term y_Mo_term ∈ gw_all := List.mem_filter.mpr ⟨List.mem_append_left _ (List.mem_of_getElem? (i := 28) (by decide +kernel)), rfl⟩
theorem sl_Mo_thingOf : Cond.selects R_Mo y_Mo_thingOf y_Mo_thingOf ∈ gw_all := List.mem_filter.mpr ⟨List.mem_append_left _ (List.mem_of_getElem? (i := 45) (by decide +kernel)), rfl⟩
theorem sl_Mo_thingOfPlace : Cond.selects R_Mo y_Mo_thingOfPlace y_Mo_thingOfPlace ∈ gw_all := List.mem_filter.mpr ⟨List.mem_append_left _ (List.mem_of_getElem? (i := 42) (by decide +kernel)), rfl⟩
theorem sl_Mo_thrownBy : Cond.selects R_Mo y_Mo_thrownBy y_Mo_thrownBy ∈ gw_all := List.mem_filter.mpr ⟨List.mem_append_left _ (List.mem_of_getElem? (i := 27) (by decide +kernel)), rfl⟩
theorem sl_Mo_valueAtHand : Cond.selects R_Mo y_Mo_valueAtHand y_Mo_valueAtHand ∈ gw_all := List.mem_filter.mpr ⟨List.mem_append_left _ (List.mem_of_getElem? (i := 38) (by decide +kernel)), rfl⟩
theorem sl_Te_add : Cond.selects R_Te y_Te_add y_Te_add ∈ gw_all := List.mem_filter.mpr ⟨List.mem_append_left _ (List.mem_of_getElem? (i := 2) (by decide +kernel)), rfl⟩
theorem sl_Wa_actWith : Cond.selects R_Wa y_Wa_actWith y_Wa_actWith ∈ gw_all := List.mem_filter.mpr ⟨List.mem_append_left _ (List.mem_of_getElem? (i := 23) (by decide +kernel)), rfl⟩
theorem sl_Wa_chooseBranch : Cond.selects R_Wa y_Wa_chooseBranch y_Wa_chooseBranch ∈ gw_all := List.mem_filter.mpr ⟨List.mem_append_left _ (List.mem_of_getElem? (i := 24) (by decide +kernel)), rfl⟩
theorem sl_Wa_enter : Cond.selects R_Wa y_Wa_enter y_Wa_enter ∈ gw_all := List.mem_filter.mpr ⟨List.mem_append_left _ (List.mem_of_getElem? (i := 19) (by decide +kernel)), rfl⟩
theorem sl_Wa_enterApply : Cond.selects R_Wa y_Wa_enterApply y_Wa_enterApply ∈ gw_all := List.mem_filter.mpr ⟨List.mem_append_left _ (List.mem_of_getElem? (i := 17) (by decide +kernel)), rfl⟩
theorem sl_Wa_enterLet : Cond.selects R_Wa y_Wa_enterLet y_Wa_enterLet ∈ gw_all := List.mem_filter.mpr ⟨List.mem_append_left _ (List.mem_of_getElem? (i := 18) (by decide +kernel)), rfl⟩
theorem sl_Wa_giveThing : Cond.selects R_Wa y_Wa_giveThing y_Wa_giveThing ∈ gw_all := List.mem_filter.mpr ⟨List.mem_append_left _ (List.mem_of_getElem? (i := 21) (by decide +kernel)), rfl⟩
theorem sl_Wa_makePair : Cond.selects R_Wa y_Wa_makePair y_Wa_makePair ∈ gw_all := List.mem_filter.mpr ⟨List.mem_append_left _ (List.mem_of_getElem? (i := 14) (by decide +kernel)), rfl⟩
theorem sl_Wa_need : Cond.selects R_Wa y_Wa_need y_Wa_need ∈ gw_all := List.mem_filter.mpr ⟨List.mem_append_left _ (List.mem_of_getElem? (i := 12) (by decide +kernel)), rfl⟩
theorem sl_Wa_needWaiting : Cond.selects R_Wa y_Wa_needWaiting y_Wa_needWaiting ∈ gw_all := List.mem_filter.mpr ⟨List.mem_append_left _ (List.mem_of_getElem? (i := 13) (by decide +kernel)), rfl⟩
theorem sl_Wa_newThingsFor : Cond.selects R_Wa y_Wa_newThingsFor y_Wa_newThingsFor ∈ gw_all := List.mem_filter.mpr ⟨List.mem_append_left _ (List.mem_of_getElem? (i := 15) (by decide +kernel)), rfl⟩
theorem sl_Wa_reachFromHand : Cond.selects R_Wa y_Wa_reachFromHand y_Wa_reachFromHand ∈ gw_all := List.mem_filter.mpr ⟨List.mem_append_left _ (List.mem_of_getElem? (i := 6) (by decide +kernel)), rfl⟩
theorem sl_Wa_reachFromRow : Cond.selects R_Wa y_Wa_reachFromRow y_Wa_reachFromRow ∈ gw_all := List.mem_filter.mpr ⟨List.mem_append_left _ (List.mem_of_getElem? (i := 9) (by decide +kernel)), rfl⟩
theorem sl_Wa_reachFromThing : Cond.selects R_Wa y_Wa_reachFromThing y_Wa_reachFromThing ∈ gw_all := List.mem_filter.mpr ⟨List.mem_append_left _ (List.mem_of_getElem? (i := 10) (by decide +kernel)), rfl⟩
theorem sl_Wa_reachOfValue : Cond.selects R_Wa y_Wa_reachOfValue y_Wa_reachOfValue ∈ gw_all := List.mem_filter.mpr ⟨List.mem_append_left _ (List.mem_of_getElem? (i := 8) (by decide +kernel)), rfl⟩
theorem sl_Wa_reachPlaces : Cond.selects R_Wa y_Wa_reachPlaces y_Wa_reachPlaces ∈ gw_all := List.mem_filter.mpr ⟨List.mem_append_left _ (List.mem_of_getElem? (i := 7) (by decide +kernel)), rfl⟩
theorem sl_Wa_stepWithTerm : Cond.selects R_Wa y_Wa_stepWithTerm y_Wa_stepWithTerm ∈ gw_all := List.mem_filter.mpr ⟨List.mem_append_left _ (List.mem_of_getElem? (i := 11) (by decide +kernel)), rfl⟩
theorem sl_Wa_stepWithValue : Cond.selects R_Wa y_Wa_stepWithValue y_Wa_stepWithValue ∈ gw_all := List.mem_filter.mpr ⟨List.mem_append_left _ (List.mem_of_getElem? (i := 20) (by decide +kernel)), rfl⟩
theorem sl_Wa_takeOfPair : Cond.selects R_Wa y_Wa_takeOfPair y_Wa_takeOfPair ∈ gw_all := List.mem_filter.mpr ⟨List.mem_append_left _ (List.mem_of_getElem? (i := 25) (by decide +kernel)), rfl⟩
theorem sl_Wa_takeTerm : Cond.selects R_Wa y_Wa_takeTerm y_Wa_takeTerm ∈ gw_all := List.mem_filter.mpr ⟨List.mem_append_left _ (List.mem_of_getElem? (i := 4) (by decide +kernel)), rfl⟩
theorem sl_Wa_thenSecond : Cond.selects R_Wa y_Wa_thenSecond y_Wa_thenSecond ∈ gw_all := List.mem_filter.mpr ⟨List.mem_append_left _ (List.mem_of_getElem? (i := 22) (by decide +kernel)), rfl⟩
theorem sl_Wa_thingFor : Cond.selects R_Wa y_Wa_thingFor y_Wa_thingFor ∈ gw_all := List.mem_filter.mpr ⟨List.mem_append_left _ (List.mem_of_getElem? (i := 16) (by decide +kernel)), rfl⟩
