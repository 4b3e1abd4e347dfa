/-! the classes whose cells the world holds, their fields -/
def tb_T0 : u_T := fun k => match k with
  | 0 => ("ProgramSlices", "code", "LProgramSlices$Code;", true)
  | 1 => ("ProgramSlices", "dependences", "LProgramSlices$Dependences;", true)
  | 2 => ("ProgramSlices", "walk", "LProgramSlices$Walk;", true)
  | 3 => ("ProgramSlices", "machine", "LProgramSlices$Machine;", true)
  | 4 => ("ProgramSlices", "order", "LProgramSlices$Order;", true)
  | 5 => ("ProgramSlices", "flows", "LProgramSlices$Flows;", true)
  | 6 => ("ProgramSlices", "current", "LProgramSlices$Slice;", true)
  | _ => ("ProgramSlices", "built", "Z", false)
def tb_t0 : Nat → FieldType := fun k => match k with
  | 0 => .object "ProgramSlices$Code"
  | 1 => .object "ProgramSlices$Dependences"
  | 2 => .object "ProgramSlices$Walk"
  | 3 => .object "ProgramSlices$Machine"
  | 4 => .object "ProgramSlices$Order"
  | 5 => .object "ProgramSlices$Flows"
  | 6 => .object "ProgramSlices$Slice"
  | _ => .boolean
theorem tb_n0 : ∀ a, a < 8 → ∀ b, b < 8 → a ≠ b → (tb_T0 a).2.1 ≠ (tb_T0 b).2.1 := by decide +kernel
theorem tb_y0 : ∀ k, k < 8 → parseFieldDescriptor (tb_T0 k).2.2.1 = some (tb_t0 k) := by decide +kernel
def tb_T1 : u_T := fun k => match k with
  | 0 => ("ProgramSlices$Code", "op", "[I", true)
  | 1 => ("ProgramSlices$Code", "d", "[I", true)
  | 2 => ("ProgramSlices$Code", "a", "[I", true)
  | 3 => ("ProgramSlices$Code", "b", "[I", true)
  | 4 => ("ProgramSlices$Code", "count", "I", false)
  | 5 => ("ProgramSlices$Code", "around", "[I", true)
  | 6 => ("ProgramSlices$Code", "elseOf", "[I", true)
  | 7 => ("ProgramSlices$Code", "endOf", "[I", true)
  | 8 => ("ProgramSlices$Code", "home", "[I", true)
  | 9 => ("ProgramSlices$Code", "first", "[I", true)
  | 10 => ("ProgramSlices$Code", "exit", "[I", true)
  | 11 => ("ProgramSlices$Code", "procedures", "I", false)
  | 12 => ("ProgramSlices$Code", "open", "[I", true)
  | _ => ("ProgramSlices$Code", "depth", "I", false)
def tb_t1 : Nat → FieldType := fun k => match k with
  | 0 => .array .int
  | 1 => .array .int
  | 2 => .array .int
  | 3 => .array .int
  | 4 => .int
  | 5 => .array .int
  | 6 => .array .int
  | 7 => .array .int
  | 8 => .array .int
  | 9 => .array .int
  | 10 => .array .int
  | 11 => .int
  | 12 => .array .int
  | _ => .int
theorem tb_n1 : ∀ a, a < 14 → ∀ b, b < 14 → a ≠ b → (tb_T1 a).2.1 ≠ (tb_T1 b).2.1 := by decide +kernel
theorem tb_y1 : ∀ k, k < 14 → parseFieldDescriptor (tb_T1 k).2.2.1 = some (tb_t1 k) := by decide +kernel
def tb_T2 : u_T := fun k => match k with
  | 0 => ("ProgramSlices$Dependences", "code", "LProgramSlices$Code;", true)
  | 1 => ("ProgramSlices$Dependences", "ways", "LProgramSlices$Ways;", true)
  | 2 => ("ProgramSlices$Dependences", "onto", "[I", true)
  | 3 => ("ProgramSlices$Dependences", "from", "[I", true)
  | 4 => ("ProgramSlices$Dependences", "byKind", "[I", true)
  | 5 => ("ProgramSlices$Dependences", "calls", "[I", true)
  | _ => ("ProgramSlices$Dependences", "summaries", "[I", true)
def tb_t2 : Nat → FieldType := fun k => match k with
  | 0 => .object "ProgramSlices$Code"
  | 1 => .object "ProgramSlices$Ways"
  | 2 => .array .int
  | 3 => .array .int
  | 4 => .array .int
  | 5 => .array .int
  | _ => .array .int
theorem tb_n2 : ∀ a, a < 7 → ∀ b, b < 7 → a ≠ b → (tb_T2 a).2.1 ≠ (tb_T2 b).2.1 := by decide +kernel
theorem tb_y2 : ∀ k, k < 7 → parseFieldDescriptor (tb_T2 k).2.2.1 = some (tb_t2 k) := by decide +kernel
def tb_T3 : u_T := fun k => match k with
  | 0 => ("ProgramSlices$Ways", "code", "LProgramSlices$Code;", true)
  | 1 => ("ProgramSlices$Ways", "onward", "[J", true)
  | 2 => ("ProgramSlices$Ways", "definitions", "[J", true)
  | 3 => ("ProgramSlices$Ways", "reached", "[J", true)
  | 4 => ("ProgramSlices$Ways", "carried", "[J", true)
  | _ => ("ProgramSlices$Ways", "begun", "[J", true)
def tb_t3 : Nat → FieldType := fun k => match k with
  | 0 => .object "ProgramSlices$Code"
  | 1 => .array .long
  | 2 => .array .long
  | 3 => .array .long
  | 4 => .array .long
  | _ => .array .long
theorem tb_n3 : ∀ a, a < 6 → ∀ b, b < 6 → a ≠ b → (tb_T3 a).2.1 ≠ (tb_T3 b).2.1 := by decide +kernel
theorem tb_y3 : ∀ k, k < 6 → parseFieldDescriptor (tb_T3 k).2.2.1 = some (tb_t3 k) := by decide +kernel
def tb_T4 : u_T := fun k => match k with
  | 0 => ("ProgramSlices$Walk", "code", "LProgramSlices$Code;", true)
  | 1 => ("ProgramSlices$Walk", "dependences", "LProgramSlices$Dependences;", true)
  | 2 => ("ProgramSlices$Walk", "found", "[I", true)
  | 3 => ("ProgramSlices$Walk", "queue", "[I", true)
  | _ => ("ProgramSlices$Walk", "filled", "I", false)
def tb_t4 : Nat → FieldType := fun k => match k with
  | 0 => .object "ProgramSlices$Code"
  | 1 => .object "ProgramSlices$Dependences"
  | 2 => .array .int
  | 3 => .array .int
  | _ => .int
theorem tb_n4 : ∀ a, a < 5 → ∀ b, b < 5 → a ≠ b → (tb_T4 a).2.1 ≠ (tb_T4 b).2.1 := by decide +kernel
theorem tb_y4 : ∀ k, k < 5 → parseFieldDescriptor (tb_T4 k).2.2.1 = some (tb_t4 k) := by decide +kernel
def tb_T5 : u_T := fun k => match k with
  | 0 => ("ProgramSlices$Machine", "log", "LProgramSlices$Log;", true)
  | 1 => ("ProgramSlices$Machine", "code", "LProgramSlices$Code;", true)
  | 2 => ("ProgramSlices$Machine", "inputs", "[I", true)
  | 3 => ("ProgramSlices$Machine", "heap", "[I", true)
  | 4 => ("ProgramSlices$Machine", "variables", "[I", true)
  | 5 => ("ProgramSlices$Machine", "procedure", "[I", true)
  | 6 => ("ProgramSlices$Machine", "caller", "[I", true)
  | 7 => ("ProgramSlices$Machine", "depth", "I", false)
  | 8 => ("ProgramSlices$Machine", "at", "I", false)
  | 9 => ("ProgramSlices$Machine", "done", "I", false)
  | 10 => ("ProgramSlices$Machine", "fuel", "I", false)
  | 11 => ("ProgramSlices$Machine", "allowed", "I", false)
  | 12 => ("ProgramSlices$Machine", "watched", "I", false)
  | 13 => ("ProgramSlices$Machine", "outcome", "I", false)
  | _ => ("ProgramSlices$Machine", "ran", "Z", false)
def tb_t5 : Nat → FieldType := fun k => match k with
  | 0 => .object "ProgramSlices$Log"
  | 1 => .object "ProgramSlices$Code"
  | 2 => .array .int
  | 3 => .array .int
  | 4 => .array .int
  | 5 => .array .int
  | 6 => .array .int
  | 7 => .int
  | 8 => .int
  | 9 => .int
  | 10 => .int
  | 11 => .int
  | 12 => .int
  | 13 => .int
  | _ => .boolean
theorem tb_n5 : ∀ a, a < 15 → ∀ b, b < 15 → a ≠ b → (tb_T5 a).2.1 ≠ (tb_T5 b).2.1 := by decide +kernel
theorem tb_y5 : ∀ k, k < 15 → parseFieldDescriptor (tb_T5 k).2.2.1 = some (tb_t5 k) := by decide +kernel
def tb_T6 : u_T := fun k => match k with
  | 0 => ("ProgramSlices$Log", "values", "[I", true)
  | 1 => ("ProgramSlices$Log", "valueCount", "I", false)
  | 2 => ("ProgramSlices$Log", "texts", "[I", true)
  | _ => ("ProgramSlices$Log", "textCounts", "[I", true)
def tb_t6 : Nat → FieldType := fun k => match k with
  | 0 => .array .int
  | 1 => .int
  | 2 => .array .int
  | _ => .array .int
theorem tb_n6 : ∀ a, a < 4 → ∀ b, b < 4 → a ≠ b → (tb_T6 a).2.1 ≠ (tb_T6 b).2.1 := by decide +kernel
theorem tb_y6 : ∀ k, k < 4 → parseFieldDescriptor (tb_T6 k).2.2.1 = some (tb_t6 k) := by decide +kernel
def tb_T7 : u_T := fun k => match k with
  | 0 => ("ProgramSlices$Order", "count", "I", false)
  | 1 => ("ProgramSlices$Order", "above", "[I", true)
  | 2 => ("ProgramSlices$Order", "ofInput", "[I", true)
  | _ => ("ProgramSlices$Order", "ofChannel", "[I", true)
def tb_t7 : Nat → FieldType := fun k => match k with
  | 0 => .int
  | 1 => .array .int
  | 2 => .array .int
  | _ => .array .int
theorem tb_n7 : ∀ a, a < 4 → ∀ b, b < 4 → a ≠ b → (tb_T7 a).2.1 ≠ (tb_T7 b).2.1 := by decide +kernel
theorem tb_y7 : ∀ k, k < 4 → parseFieldDescriptor (tb_T7 k).2.2.1 = some (tb_t7 k) := by decide +kernel
def tb_T8 : u_T := fun k => match k with
  | 0 => ("ProgramSlices$Flows", "code", "LProgramSlices$Code;", true)
  | 1 => ("ProgramSlices$Flows", "order", "LProgramSlices$Order;", true)
  | _ => ("ProgramSlices$Flows", "sources", "[I", true)
def tb_t8 : Nat → FieldType := fun k => match k with
  | 0 => .object "ProgramSlices$Code"
  | 1 => .object "ProgramSlices$Order"
  | _ => .array .int
theorem tb_n8 : ∀ a, a < 3 → ∀ b, b < 3 → a ≠ b → (tb_T8 a).2.1 ≠ (tb_T8 b).2.1 := by decide +kernel
theorem tb_y8 : ∀ k, k < 3 → parseFieldDescriptor (tb_T8 k).2.2.1 = some (tb_t8 k) := by decide +kernel
def tb_T9 : u_T := fun k => match k with
  | 0 => ("ProgramSlices$Slice", "words", "[I", true)
  | 1 => ("ProgramSlices$Slice", "taken", "Z", false)
  | 2 => ("ProgramSlices$Slice", "forward", "Z", false)
  | _ => ("ProgramSlices$Slice", "instruction", "I", false)
def tb_t9 : Nat → FieldType := fun k => match k with
  | 0 => .array .int
  | 1 => .boolean
  | 2 => .boolean
  | _ => .int
theorem tb_n9 : ∀ a, a < 4 → ∀ b, b < 4 → a ≠ b → (tb_T9 a).2.1 ≠ (tb_T9 b).2.1 := by decide +kernel
theorem tb_y9 : ∀ k, k < 4 → parseFieldDescriptor (tb_T9 k).2.2.1 = some (tb_t9 k) := by decide +kernel
def tb_T10 : u_T := fun k => match k with
  | 0 => ("ProgramSlicesModel", "count", "I", false)
  | 1 => ("ProgramSlicesModel", "op", "[I", true)
  | 2 => ("ProgramSlicesModel", "d", "[I", true)
  | 3 => ("ProgramSlicesModel", "a", "[I", true)
  | 4 => ("ProgramSlicesModel", "b", "[I", true)
  | 5 => ("ProgramSlicesModel", "built", "Z", false)
  | 6 => ("ProgramSlicesModel", "procs", "I", false)
  | 7 => ("ProgramSlicesModel", "begin", "[I", true)
  | 8 => ("ProgramSlicesModel", "end", "[I", true)
  | 9 => ("ProgramSlicesModel", "inProc", "[I", true)
  | 10 => ("ProgramSlicesModel", "around", "[I", true)
  | 11 => ("ProgramSlicesModel", "elseOf", "[I", true)
  | 12 => ("ProgramSlicesModel", "endOf", "[I", true)
  | 13 => ("ProgramSlicesModel", "headOf", "[I", true)
  | 14 => ("ProgramSlicesModel", "stack", "[I", true)
  | 15 => ("ProgramSlicesModel", "reach", "[J", true)
  | 16 => ("ProgramSlicesModel", "inside", "[J", true)
  | 17 => ("ProgramSlicesModel", "up", "[J", true)
  | 18 => ("ProgramSlicesModel", "down", "[J", true)
  | 19 => ("ProgramSlicesModel", "set", "[J", true)
  | 20 => ("ProgramSlicesModel", "sliceKind", "I", false)
  | 21 => ("ProgramSlicesModel", "sliceOf", "I", false)
  | 22 => ("ProgramSlicesModel", "slice", "[J", true)
  | 23 => ("ProgramSlicesModel", "inputs", "[I", true)
  | 24 => ("ProgramSlicesModel", "ran", "Z", false)
  | 25 => ("ProgramSlicesModel", "steps", "I", false)
  | 26 => ("ProgramSlicesModel", "depth", "I", false)
  | 27 => ("ProgramSlicesModel", "xs", "[I", true)
  | 28 => ("ProgramSlicesModel", "callers", "[I", true)
  | 29 => ("ProgramSlicesModel", "heap", "[I", true)
  | 30 => ("ProgramSlicesModel", "seenCount", "I", false)
  | 31 => ("ProgramSlicesModel", "seenValue", "[I", true)
  | 32 => ("ProgramSlicesModel", "outCount", "[I", true)
  | 33 => ("ProgramSlicesModel", "outValue", "[I", true)
  | 34 => ("ProgramSlicesModel", "levels", "I", false)
  | 35 => ("ProgramSlicesModel", "order", "[Z", true)
  | 36 => ("ProgramSlicesModel", "inputLevel", "[I", true)
  | _ => ("ProgramSlicesModel", "channelLevel", "[I", true)
def tb_t10 : Nat → FieldType := fun k => match k with
  | 0 => .int
  | 1 => .array .int
  | 2 => .array .int
  | 3 => .array .int
  | 4 => .array .int
  | 5 => .boolean
  | 6 => .int
  | 7 => .array .int
  | 8 => .array .int
  | 9 => .array .int
  | 10 => .array .int
  | 11 => .array .int
  | 12 => .array .int
  | 13 => .array .int
  | 14 => .array .int
  | 15 => .array .long
  | 16 => .array .long
  | 17 => .array .long
  | 18 => .array .long
  | 19 => .array .long
  | 20 => .int
  | 21 => .int
  | 22 => .array .long
  | 23 => .array .int
  | 24 => .boolean
  | 25 => .int
  | 26 => .int
  | 27 => .array .int
  | 28 => .array .int
  | 29 => .array .int
  | 30 => .int
  | 31 => .array .int
  | 32 => .array .int
  | 33 => .array .int
  | 34 => .int
  | 35 => .array .boolean
  | 36 => .array .int
  | _ => .array .int
theorem tb_n10 : ∀ a, a < 38 → ∀ b, b < 38 → a ≠ b → (tb_T10 a).2.1 ≠ (tb_T10 b).2.1 := by decide +kernel
theorem tb_y10 : ∀ k, k < 38 → parseFieldDescriptor (tb_T10 k).2.2.1 = some (tb_t10 k) := by decide +kernel
def tb_cl : List vw_C := [("ProgramSlices", tb_T0, 8), ("ProgramSlices$Code", tb_T1, 14), ("ProgramSlices$Dependences", tb_T2, 7), ("ProgramSlices$Ways", tb_T3, 6), ("ProgramSlices$Walk", tb_T4, 5), ("ProgramSlices$Machine", tb_T5, 15), ("ProgramSlices$Log", tb_T6, 4), ("ProgramSlices$Order", tb_T7, 4), ("ProgramSlices$Flows", tb_T8, 3), ("ProgramSlices$Slice", tb_T9, 4), ("ProgramSlicesModel", tb_T10, 38)]
/-! the words: those that every method may ask for, those of nest mates -/
def tb_W : List Cond := lw_tbl.filter goodWord
def tb_N : List Cond := tables_1.filter sm_isN
theorem tb_in {w : Cond} {i : Nat} (h : tables_1[i]? = some w) (hg : goodWord w = true) : w ∈ tb_W := List.mem_filter.mpr ⟨List.mem_append_right _ (List.mem_of_getElem? h), hg⟩
theorem tb_inp {w : Cond} {i : Nat} (h : (k2_sels lw_privs)[i]? = some w) (hg : goodWord w = true) : w ∈ tb_W := List.mem_filter.mpr ⟨List.mem_append_left _ (List.mem_of_getElem? h), hg⟩
theorem tb_inn {w : Cond} {i : Nat} (h : tables_1[i]? = some w) (hg : sm_isN w = true) : w ∈ tb_N := List.mem_filter.mpr ⟨List.mem_of_getElem? h, hg⟩
theorem tb_good {w : Cond} (h : w ∈ tb_W) : w ∈ tb_W ∧ ((w.onTables && w.keeps) = true ∨ ∃ ty, w = .arrayClass ty) := ⟨h, good_of_word (List.mem_filter.mp h).2⟩
theorem tb_G {w : Cond} (h : w ∈ tb_W) : GoodIn tb_W (w :: tb_W) := fun v hv => (List.mem_cons.mp hv).elim (fun e => e ▸ tb_good h) (fun h => tb_good h)
theorem tb_app {big a b : List Cond} (ha : GoodIn big a) (hb : GoodIn big b) : GoodIn big (a ++ b) := fun w h => (List.mem_append.mp h).elim (ha w) (hb w)
theorem tb_GS {own : String} {i : Nat} {y : MethodName} {w : Cond} (h1 : Cond.methodLink own i y ∈ tb_W) (h2 : Cond.static y ∈ tb_W) (h3 : Cond.initialized y.cls ∈ tb_W) (h : w ∈ tb_W) : GoodIn tb_W (va_wsS own i y (w :: tb_W)) := tb_app (fun v hv => by
  rcases List.mem_cons.mp hv with e | hv
  · exact e ▸ tb_good h1
  rcases List.mem_cons.mp hv with e | hv
  · exact e ▸ tb_good h2
  rcases List.mem_cons.mp hv with e | hv
  · exact e ▸ tb_good h3
  · cases hv) (tb_G h)
theorem tb_GV {own : String} {i : Nat} {y : MethodName} {w : Cond} (h1 : Cond.methodLink own i y ∈ tb_W) (h2 : Cond.instanceMethod y ∈ tb_W) (h3 : Cond.selects y.cls y y ∈ tb_W) (h4 : Cond.initialized y.cls ∈ tb_W) (h : w ∈ tb_W) : GoodIn tb_W (wsV own i y.cls y (w :: tb_W)) := tb_app (fun v hv => by
  rcases List.mem_cons.mp hv with e | hv
  · exact e ▸ tb_good h1
  rcases List.mem_cons.mp hv with e | hv
  · exact e ▸ tb_good h2
  rcases List.mem_cons.mp hv with e | hv
  · exact e ▸ tb_good h3
  rcases List.mem_cons.mp hv with e | hv
  · exact e ▸ tb_good h4
  · cases hv) (tb_G h)
theorem tb_u0 : ∀ w ∈ u_ws "ProgramSlices" tb_T0 8, w ∈ tb_W := by
  intro w hw
  obtain ⟨k, hk, rfl⟩ := List.mem_map.mp hw
  have hk := List.mem_range.mp hk
  have hp : tables_1[(([311, 313, 315, 317, 319, 321, 323, 325] : List Nat).getD k 0)]? = some (u_lay "ProgramSlices" tb_T0 k) ∧ goodWord (u_lay "ProgramSlices" tb_T0 k) = true := by
    clear hw
    revert hk
    revert k
    decide +kernel
  exact tb_in hp.1 hp.2
theorem tb_u1 : ∀ w ∈ u_ws "ProgramSlices$Code" tb_T1 14, w ∈ tb_W := by
  intro w hw
  obtain ⟨k, hk, rfl⟩ := List.mem_map.mp hw
  have hk := List.mem_range.mp hk
  have hp : tables_1[(([71, 73, 75, 77, 79, 81, 83, 85, 87, 89, 91, 93, 95, 97] : List Nat).getD k 0)]? = some (u_lay "ProgramSlices$Code" tb_T1 k) ∧ goodWord (u_lay "ProgramSlices$Code" tb_T1 k) = true := by
    clear hw
    revert hk
    revert k
    decide +kernel
  exact tb_in hp.1 hp.2
theorem tb_u2 : ∀ w ∈ u_ws "ProgramSlices$Dependences" tb_T2 7, w ∈ tb_W := by
  intro w hw
  obtain ⟨k, hk, rfl⟩ := List.mem_map.mp hw
  have hk := List.mem_range.mp hk
  have hp : tables_1[(([140, 142, 144, 146, 148, 150, 152] : List Nat).getD k 0)]? = some (u_lay "ProgramSlices$Dependences" tb_T2 k) ∧ goodWord (u_lay "ProgramSlices$Dependences" tb_T2 k) = true := by
    clear hw
    revert hk
    revert k
    decide +kernel
  exact tb_in hp.1 hp.2
theorem tb_u3 : ∀ w ∈ u_ws "ProgramSlices$Ways" tb_T3 6, w ∈ tb_W := by
  intro w hw
  obtain ⟨k, hk, rfl⟩ := List.mem_map.mp hw
  have hk := List.mem_range.mp hk
  have hp : tables_1[(([119, 121, 123, 125, 127, 129] : List Nat).getD k 0)]? = some (u_lay "ProgramSlices$Ways" tb_T3 k) ∧ goodWord (u_lay "ProgramSlices$Ways" tb_T3 k) = true := by
    clear hw
    revert hk
    revert k
    decide +kernel
  exact tb_in hp.1 hp.2
theorem tb_u4 : ∀ w ∈ u_ws "ProgramSlices$Walk" tb_T4 5, w ∈ tb_W := by
  intro w hw
  obtain ⟨k, hk, rfl⟩ := List.mem_map.mp hw
  have hk := List.mem_range.mp hk
  have hp : tables_1[(([166, 168, 170, 172, 174] : List Nat).getD k 0)]? = some (u_lay "ProgramSlices$Walk" tb_T4 k) ∧ goodWord (u_lay "ProgramSlices$Walk" tb_T4 k) = true := by
    clear hw
    revert hk
    revert k
    decide +kernel
  exact tb_in hp.1 hp.2
theorem tb_u5 : ∀ w ∈ u_ws "ProgramSlices$Machine" tb_T5 15, w ∈ tb_W := by
  intro w hw
  obtain ⟨k, hk, rfl⟩ := List.mem_map.mp hw
  have hk := List.mem_range.mp hk
  have hp : tables_1[(([218, 220, 222, 224, 226, 228, 230, 232, 234, 236, 238, 240, 242, 244, 246] : List Nat).getD k 0)]? = some (u_lay "ProgramSlices$Machine" tb_T5 k) ∧ goodWord (u_lay "ProgramSlices$Machine" tb_T5 k) = true := by
    clear hw
    revert hk
    revert k
    decide +kernel
  exact tb_in hp.1 hp.2
theorem tb_u6 : ∀ w ∈ u_ws "ProgramSlices$Log" tb_T6 4, w ∈ tb_W := by
  intro w hw
  obtain ⟨k, hk, rfl⟩ := List.mem_map.mp hw
  have hk := List.mem_range.mp hk
  have hp : tables_1[(([193, 195, 197, 199] : List Nat).getD k 0)]? = some (u_lay "ProgramSlices$Log" tb_T6 k) ∧ goodWord (u_lay "ProgramSlices$Log" tb_T6 k) = true := by
    clear hw
    revert hk
    revert k
    decide +kernel
  exact tb_in hp.1 hp.2
theorem tb_u7 : ∀ w ∈ u_ws "ProgramSlices$Order" tb_T7 4, w ∈ tb_W := by
  intro w hw
  obtain ⟨k, hk, rfl⟩ := List.mem_map.mp hw
  have hk := List.mem_range.mp hk
  have hp : tables_1[(([259, 261, 263, 265] : List Nat).getD k 0)]? = some (u_lay "ProgramSlices$Order" tb_T7 k) ∧ goodWord (u_lay "ProgramSlices$Order" tb_T7 k) = true := by
    clear hw
    revert hk
    revert k
    decide +kernel
  exact tb_in hp.1 hp.2
theorem tb_u8 : ∀ w ∈ u_ws "ProgramSlices$Flows" tb_T8 3, w ∈ tb_W := by
  intro w hw
  obtain ⟨k, hk, rfl⟩ := List.mem_map.mp hw
  have hk := List.mem_range.mp hk
  have hp : tables_1[(([277, 279, 281] : List Nat).getD k 0)]? = some (u_lay "ProgramSlices$Flows" tb_T8 k) ∧ goodWord (u_lay "ProgramSlices$Flows" tb_T8 k) = true := by
    clear hw
    revert hk
    revert k
    decide +kernel
  exact tb_in hp.1 hp.2
theorem tb_u9 : ∀ w ∈ u_ws "ProgramSlices$Slice" tb_T9 4, w ∈ tb_W := by
  intro w hw
  obtain ⟨k, hk, rfl⟩ := List.mem_map.mp hw
  have hk := List.mem_range.mp hk
  have hp : tables_1[(([294, 296, 298, 300] : List Nat).getD k 0)]? = some (u_lay "ProgramSlices$Slice" tb_T9 k) ∧ goodWord (u_lay "ProgramSlices$Slice" tb_T9 k) = true := by
    clear hw
    revert hk
    revert k
    decide +kernel
  exact tb_in hp.1 hp.2
theorem tb_u10 : ∀ w ∈ u_ws "ProgramSlicesModel" tb_T10 38, w ∈ tb_W := by
  intro w hw
  obtain ⟨k, hk, rfl⟩ := List.mem_map.mp hw
  have hk := List.mem_range.mp hk
  have hp : tables_1[(([930, 932, 934, 936, 938, 940, 942, 944, 946, 948, 950, 952, 954, 956, 958, 960, 962, 964, 966, 968, 970, 972, 974, 976, 978, 980, 982, 984, 986, 988, 990, 992, 994, 996, 998, 1000, 1002, 1004] : List Nat).getD k 0)]? = some (u_lay "ProgramSlicesModel" tb_T10 k) ∧ goodWord (u_lay "ProgramSlicesModel" tb_T10 k) = true := by
    clear hw
    revert hk
    revert k
    decide +kernel
  exact tb_in hp.1 hp.2
/-! the methods -/
abbrev tb_Q : Type := MethodName × ByteArray × Nat × Option FieldType
def tb_ml : List tb_Q := [(⟨"ProgramSlices", "<init>", "()V"⟩, prog_1_method_1_code, 1, none),
  (⟨"ProgramSlices$Code", "<init>", "()V"⟩, prog_2_method_1_code, 1, none),
  (⟨"ProgramSlices$Dependences", "<init>", "(LProgramSlices$Code;)V"⟩, prog_3_method_1_code, 2, none),
  (⟨"ProgramSlices$Ways", "<init>", "(LProgramSlices$Code;)V"⟩, prog_10_method_1_code, 2, none),
  (⟨"ProgramSlices$Walk", "<init>", "(LProgramSlices$Code;LProgramSlices$Dependences;)V"⟩, prog_9_method_1_code, 3, none),
  (⟨"ProgramSlices$Machine", "<init>", "(LProgramSlices$Code;)V"⟩, prog_6_method_1_code, 2, none),
  (⟨"ProgramSlices$Log", "<init>", "()V"⟩, prog_5_method_1_code, 1, none),
  (⟨"ProgramSlices$Order", "<init>", "()V"⟩, prog_7_method_1_code, 1, none),
  (⟨"ProgramSlices$Flows", "<init>", "(LProgramSlices$Code;LProgramSlices$Order;)V"⟩, prog_4_method_1_code, 3, none),
  (⟨"ProgramSlices$Slice", "<init>", "()V"⟩, prog_8_method_1_code, 1, none),
  (⟨"ProgramSlices", "add", "(IIII)I"⟩, prog_1_method_2_code, 5, some .int),
  (⟨"ProgramSlices$Code", "hasRoom", "()Z"⟩, prog_2_method_2_code, 1, some .boolean),
  (⟨"ProgramSlices$Code", "isAllowed", "(IIII)Z"⟩, prog_2_method_3_code, 5, some .boolean),
  (⟨"ProgramSlices$Code", "namesD", "(I)Z"⟩, prog_2_method_4_code, 1, some .boolean),
  (⟨"ProgramSlices$Code", "isCallOp", "(I)Z"⟩, prog_2_method_7_code, 1, some .boolean),
  (⟨"ProgramSlices", "isOneOfFour", "(I)Z"⟩, prog_1_method_22_code, 1, some .boolean),
  (⟨"ProgramSlices$Code", "namesA", "(I)Z"⟩, prog_2_method_5_code, 1, some .boolean),
  (⟨"ProgramSlices$Code", "namesB", "(I)Z"⟩, prog_2_method_6_code, 1, some .boolean),
  (⟨"ProgramSlices$Code", "append", "(IIII)I"⟩, prog_2_method_8_code, 5, some .int),
  (⟨"ProgramSlices", "clear", "()V"⟩, prog_1_method_3_code, 1, none),
  (⟨"ProgramSlices$Code", "wipe", "()V"⟩, prog_2_method_9_code, 1, none),
  (⟨"ProgramSlices$Slice", "drop", "()V"⟩, prog_8_method_2_code, 1, none),
  (⟨"ProgramSlices$Machine", "forget", "()V"⟩, prog_6_method_3_code, 1, none),
  (⟨"ProgramSlices$Log", "empty", "()V"⟩, prog_5_method_2_code, 1, none),
  (⟨"java/util/Arrays", "fill", "([II)V"⟩, prog_14_method_103_code, 4, none),
  (⟨"ProgramSlices", "build", "()I"⟩, prog_1_method_4_code, 2, some .int),
  (⟨"ProgramSlices$Code", "layOut", "()I"⟩, prog_2_method_15_code, 2, some .int),
  (⟨"ProgramSlices$Code", "place", "(I)Z"⟩, prog_2_method_16_code, 2, some .boolean),
  (⟨"ProgramSlices$Code", "placeOpener", "(I)Z"⟩, prog_2_method_17_code, 2, some .boolean),
  (⟨"ProgramSlices$Code", "placeElse", "(II)Z"⟩, prog_2_method_18_code, 3, some .boolean),
  (⟨"ProgramSlices$Code", "placeEnd", "(II)Z"⟩, prog_2_method_19_code, 3, some .boolean),
  (⟨"ProgramSlices$Code", "placeProc", "(I)Z"⟩, prog_2_method_20_code, 2, some .boolean),
  (⟨"ProgramSlices$Code", "firstCallOfNothing", "()I"⟩, prog_2_method_21_code, 2, some .int),
  (⟨"ProgramSlices$Code", "isCall", "(I)Z"⟩, prog_2_method_12_code, 2, some .boolean),
  (⟨"ProgramSlices$Code", "callee", "(I)I"⟩, prog_2_method_13_code, 2, some .int),
  (⟨"ProgramSlices$Dependences", "workOut", "()V"⟩, prog_3_method_8_code, 2, none),
  (⟨"ProgramSlices$Ways", "workOut", "()V"⟩, prog_10_method_5_code, 2, none),
  (⟨"java/util/Arrays", "fill", "([JJ)V"⟩, prog_14_method_101_code, 5, none),
  (⟨"ProgramSlices$Ways", "stepsFrom", "(I)J"⟩, prog_10_method_6_code, 4, some .long),
  (⟨"ProgramSlices$Code", "otherwise", "(I)I"⟩, prog_2_method_22_code, 2, some .int),
  (⟨"ProgramSlices$Code", "behindMark", "(I)I"⟩, prog_2_method_23_code, 3, some .int),
  (⟨"ProgramSlices$Code", "defines", "(I)Z"⟩, prog_2_method_14_code, 2, some .boolean),
  (⟨"ProgramSlices$Ways", "flood", "(JJ)J"⟩, prog_10_method_7_code, 12, some .long),
  (⟨"ProgramSlices", "hasPosition", "(JI)Z"⟩, prog_1_method_24_code, 3, some .boolean),
  (⟨"ProgramSlices$Code", "isNode", "(I)Z"⟩, prog_2_method_11_code, 2, some .boolean),
  (⟨"ProgramSlices$Code", "isThere", "(I)Z"⟩, prog_2_method_10_code, 2, some .boolean),
  (⟨"ProgramSlices$Dependences", "joinControl", "(I)V"⟩, prog_3_method_11_code, 4, none),
  (⟨"ProgramSlices", "sideOf", "(II)I"⟩, prog_1_method_26_code, 2, some .int),
  (⟨"ProgramSlices$Dependences", "joinAs", "(III)V"⟩, prog_3_method_10_code, 5, none),
  (⟨"ProgramSlices$Dependences", "join", "(II)V"⟩, prog_3_method_9_code, 3, none),
  (⟨"ProgramSlices", "partOf", "(II)I"⟩, prog_1_method_25_code, 2, some .int),
  (⟨"ProgramSlices$Dependences", "joinData", "(I)V"⟩, prog_3_method_12_code, 3, none),
  (⟨"ProgramSlices$Dependences", "joinRead", "(IIII)V"⟩, prog_3_method_13_code, 6, none),
  (⟨"ProgramSlices$Ways", "carries", "(II)Z"⟩, prog_10_method_3_code, 3, some .boolean),
  (⟨"ProgramSlices$Ways", "carriesBeginning", "(III)Z"⟩, prog_10_method_4_code, 4, some .boolean),
  (⟨"ProgramSlices$Dependences", "joinHeap", "(I)V"⟩, prog_3_method_14_code, 5, none),
  (⟨"ProgramSlices$Ways", "isReached", "(II)Z"⟩, prog_10_method_2_code, 3, some .boolean),
  (⟨"ProgramSlices$Dependences", "joinSource", "(IIIII)V"⟩, prog_3_method_17_code, 6, none),
  (⟨"ProgramSlices$Dependences", "joinHalt", "(I)V"⟩, prog_3_method_15_code, 4, none),
  (⟨"ProgramSlices$Dependences", "joinEnds", "(I)V"⟩, prog_3_method_16_code, 3, none),
  (⟨"ProgramSlices$Walk", "summarise", "()V"⟩, prog_9_method_4_code, 5, none),
  (⟨"ProgramSlices$Walk", "summariseEnd", "(II)Z"⟩, prog_9_method_5_code, 6, some .boolean),
  (⟨"ProgramSlices$Walk", "begin", "(I)V"⟩, prog_9_method_6_code, 2, none),
  (⟨"ProgramSlices$Walk", "put", "(I)V"⟩, prog_9_method_7_code, 3, none),
  (⟨"ProgramSlices$Walk", "follow", "(IZ)V"⟩, prog_9_method_9_code, 6, none),
  (⟨"ProgramSlices$Dependences", "neighbours", "(IIZ)I"⟩, prog_3_method_3_code, 4, some .int),
  (⟨"ProgramSlices$Walk", "putAll", "(II)V"⟩, prog_9_method_8_code, 5, none),
  (⟨"ProgramSlices", "hasBit", "(II)Z"⟩, prog_1_method_23_code, 2, some .boolean),
  (⟨"ProgramSlices$Walk", "partAt", "(I)I"⟩, prog_9_method_10_code, 1, some .int),
  (⟨"ProgramSlices$Walk", "callsBeyond", "(IZ)I"⟩, prog_9_method_11_code, 3, some .int),
  (⟨"ProgramSlices$Walk", "isEnd", "(I)Z"⟩, prog_9_method_13_code, 1, some .boolean),
  (⟨"ProgramSlices$Dependences", "callsOf", "(I)I"⟩, prog_3_method_2_code, 2, some .int),
  (⟨"ProgramSlices$Walk", "sideBeyond", "(IZ)I"⟩, prog_9_method_12_code, 4, some .int),
  (⟨"ProgramSlices$Dependences", "isSummary", "(III)Z"⟩, prog_3_method_5_code, 4, some .boolean),
  (⟨"ProgramSlices$Dependences", "summaryBit", "(II)I"⟩, prog_3_method_6_code, 2, some .int),
  (⟨"ProgramSlices$Dependences", "putSummary", "(III)V"⟩, prog_3_method_7_code, 5, none),
  (⟨"ProgramSlices$Flows", "trace", "(LProgramSlices$Walk;)V"⟩, prog_4_method_2_code, 3, none),
  (⟨"ProgramSlices$Flows", "isSink", "(I)Z"⟩, prog_4_method_3_code, 2, some .boolean),
  (⟨"ProgramSlices$Walk", "takeSlice", "(IZ)V"⟩, prog_9_method_3_code, 3, none),
  (⟨"ProgramSlices$Walk", "word", "(I)I"⟩, prog_9_method_2_code, 2, some .int),
  (⟨"ProgramSlices", "levels", "(I)Z"⟩, prog_1_method_5_code, 2, some .boolean),
  (⟨"ProgramSlices$Order", "reset", "(I)V"⟩, prog_7_method_2_code, 3, none),
  (⟨"ProgramSlices", "below", "(II)Z"⟩, prog_1_method_6_code, 3, some .boolean),
  (⟨"ProgramSlices$Order", "isLevel", "(I)Z"⟩, prog_7_method_3_code, 2, some .boolean),
  (⟨"ProgramSlices$Order", "tell", "(II)V"⟩, prog_7_method_4_code, 4, none),
  (⟨"ProgramSlices$Order", "isBelow", "(II)Z"⟩, prog_7_method_5_code, 3, some .boolean),
  (⟨"ProgramSlices", "label", "(ZII)Z"⟩, prog_1_method_7_code, 4, some .boolean),
  (⟨"ProgramSlices$Order", "mark", "(ZII)V"⟩, prog_7_method_6_code, 4, none),
  (⟨"ProgramSlices", "lattice", "()I"⟩, prog_1_method_8_code, 1, some .int),
  (⟨"ProgramSlices$Order", "fault", "()I"⟩, prog_7_method_9_code, 1, some .int),
  (⟨"ProgramSlices$Order", "hasCircle", "()Z"⟩, prog_7_method_10_code, 3, some .boolean),
  (⟨"ProgramSlices$Order", "allJoin", "()Z"⟩, prog_7_method_11_code, 3, some .boolean),
  (⟨"ProgramSlices$Order", "hasLeast", "(I)Z"⟩, prog_7_method_12_code, 3, some .boolean),
  (⟨"ProgramSlices$Order", "bottom", "()I"⟩, prog_7_method_13_code, 3, some .int),
  (⟨"ProgramSlices", "depends", "(II)I"⟩, prog_1_method_9_code, 3, some .int),
  (⟨"ProgramSlices$Dependences", "kindsBetween", "(II)I"⟩, prog_3_method_4_code, 5, some .int),
  (⟨"ProgramSlices", "summary", "(III)Z"⟩, prog_1_method_10_code, 4, some .boolean),
  (⟨"ProgramSlices", "slice", "(IZ)I"⟩, prog_1_method_11_code, 3, some .int),
  (⟨"ProgramSlices$Slice", "take", "(IZLProgramSlices$Walk;)V"⟩, prog_8_method_3_code, 4, none),
  (⟨"ProgramSlices$Slice", "join", "(LProgramSlices$Walk;)V"⟩, prog_8_method_12_code, 3, none),
  (⟨"ProgramSlices$Slice", "size", "()I"⟩, prog_8_method_8_code, 1, some .int),
  (⟨"ProgramSlices", "fit", "()I"⟩, prog_1_method_12_code, 1, some .int),
  (⟨"ProgramSlices$Slice", "isBackward", "()Z"⟩, prog_8_method_5_code, 1, some .boolean),
  (⟨"ProgramSlices$Slice", "makeFit", "(LProgramSlices$Walk;LProgramSlices$Code;)V"⟩, prog_8_method_9_code, 6, none),
  (⟨"ProgramSlices$Slice", "fitCall", "(LProgramSlices$Walk;II)Z"⟩, prog_8_method_10_code, 6, some .boolean),
  (⟨"ProgramSlices$Slice", "lacks", "(III)Z"⟩, prog_8_method_11_code, 4, some .boolean),
  (⟨"ProgramSlices", "sliced", "(I)Z"⟩, prog_1_method_13_code, 2, some .boolean),
  (⟨"ProgramSlices$Slice", "isTaken", "()Z"⟩, prog_8_method_4_code, 1, some .boolean),
  (⟨"ProgramSlices$Slice", "instructions", "()I"⟩, prog_8_method_7_code, 1, some .int),
  (⟨"ProgramSlices", "input", "(II)Z"⟩, prog_1_method_14_code, 3, some .boolean),
  (⟨"ProgramSlices$Machine", "setInput", "(II)V"⟩, prog_6_method_2_code, 3, none),
  (⟨"ProgramSlices", "run", "(ZI)I"⟩, prog_1_method_15_code, 4, some .int),
  (⟨"ProgramSlices$Slice", "criterion", "()I"⟩, prog_8_method_6_code, 1, some .int),
  (⟨"ProgramSlices$Machine", "perform", "(III)I"⟩, prog_6_method_5_code, 5, some .int),
  (⟨"ProgramSlices$Machine", "enter", "(IIII)V"⟩, prog_6_method_13_code, 5, none),
  (⟨"ProgramSlices$Machine", "setVariable", "(II)V"⟩, prog_6_method_16_code, 3, none),
  (⟨"ProgramSlices$Machine", "takeTurn", "()V"⟩, prog_6_method_6_code, 1, none),
  (⟨"ProgramSlices$Machine", "leave", "()V"⟩, prog_6_method_14_code, 3, none),
  (⟨"ProgramSlices$Machine", "variable", "(I)I"⟩, prog_6_method_15_code, 2, some .int),
  (⟨"ProgramSlices$Machine", "isBranch", "(I)Z"⟩, prog_6_method_7_code, 2, some .boolean),
  (⟨"ProgramSlices$Machine", "take", "(I)V"⟩, prog_6_method_8_code, 3, none),
  (⟨"ProgramSlices$Machine", "takeCall", "(I)V"⟩, prog_6_method_9_code, 2, none),
  (⟨"ProgramSlices$Machine", "takeBranch", "(I)V"⟩, prog_6_method_10_code, 3, none),
  (⟨"ProgramSlices$Machine", "note", "(II)V"⟩, prog_6_method_17_code, 3, none),
  (⟨"ProgramSlices$Log", "noteValue", "(I)V"⟩, prog_5_method_3_code, 2, none),
  (⟨"ProgramSlices$Log", "noteText", "(II)V"⟩, prog_5_method_4_code, 3, none),
  (⟨"ProgramSlices$Machine", "newValue", "(I)I"⟩, prog_6_method_11_code, 2, some .int),
  (⟨"ProgramSlices$Machine", "quotient", "(II)I"⟩, prog_6_method_12_code, 2, some .int),
  (⟨"ProgramSlices", "steps", "()I"⟩, prog_1_method_16_code, 1, some .int),
  (⟨"ProgramSlices$Machine", "stepsDone", "()I"⟩, prog_6_method_4_code, 1, some .int),
  (⟨"ProgramSlices", "seen", "(I)I"⟩, prog_1_method_17_code, 2, some .int),
  (⟨"ProgramSlices$Log", "valueSeen", "(I)I"⟩, prog_5_method_5_code, 2, some .int),
  (⟨"ProgramSlices", "written", "(II)I"⟩, prog_1_method_18_code, 3, some .int),
  (⟨"ProgramSlices$Log", "valueWritten", "(II)I"⟩, prog_5_method_6_code, 4, some .int),
  (⟨"ProgramSlices", "check", "()I"⟩, prog_1_method_19_code, 1, some .int),
  (⟨"ProgramSlices", "canCheck", "()Z"⟩, prog_1_method_21_code, 1, some .boolean),
  (⟨"ProgramSlices$Flows", "count", "()I"⟩, prog_4_method_4_code, 3, some .int),
  (⟨"ProgramSlices$Flows", "inputsInto", "(I)I"⟩, prog_4_method_6_code, 5, some .int),
  (⟨"ProgramSlices$Order", "levelOfChannel", "(I)I"⟩, prog_7_method_8_code, 2, some .int),
  (⟨"ProgramSlices$Order", "levelOfInput", "(I)I"⟩, prog_7_method_7_code, 2, some .int),
  (⟨"ProgramSlices", "flow", "(I)I"⟩, prog_1_method_20_code, 2, some .int),
  (⟨"ProgramSlices$Flows", "find", "(I)I"⟩, prog_4_method_5_code, 6, some .int),
  (⟨"ProgramSlicesModel", "<init>", "()V"⟩, prog_12_method_1_code, 1, none),
  (⟨"ProgramSlicesModel", "add", "(IIII)I"⟩, prog_12_method_4_code, 9, some .int),
  (⟨"ProgramSlicesModel", "four", "(I)Z"⟩, prog_12_method_2_code, 1, some .boolean),
  (⟨"ProgramSlicesModel", "clear", "()V"⟩, prog_12_method_5_code, 1, none),
  (⟨"ProgramSlicesModel", "build", "()I"⟩, prog_12_method_7_code, 3, some .int),
  (⟨"ProgramSlicesModel", "structure", "()I"⟩, prog_12_method_6_code, 4, some .int),
  (⟨"ProgramSlicesModel", "isCall", "(I)Z"⟩, prog_12_method_3_code, 2, some .boolean),
  (⟨"ProgramSlicesModel", "ways", "()V"⟩, prog_12_method_10_code, 4, none),
  (⟨"ProgramSlicesModel", "way", "(II)I"⟩, prog_12_method_9_code, 4, some .int),
  (⟨"ProgramSlicesModel", "behind", "(II)I"⟩, prog_12_method_8_code, 3, some .int),
  (⟨"ProgramSlicesModel", "dependences", "()V"⟩, prog_12_method_29_code, 4, none),
  (⟨"ProgramSlicesModel", "how", "(II)I"⟩, prog_12_method_26_code, 3, some .int),
  (⟨"ProgramSlicesModel", "exists", "(I)Z"⟩, prog_12_method_16_code, 3, some .boolean),
  (⟨"ProgramSlicesModel", "procedure", "(I)I"⟩, prog_12_method_20_code, 2, some .int),
  (⟨"ProgramSlicesModel", "at", "(I)I"⟩, prog_12_method_19_code, 1, some .int),
  (⟨"ProgramSlicesModel", "control", "(II)Z"⟩, prog_12_method_22_code, 4, some .boolean),
  (⟨"ProgramSlicesModel", "data", "(II)Z"⟩, prog_12_method_23_code, 6, some .boolean),
  (⟨"ProgramSlicesModel", "role", "(I)I"⟩, prog_12_method_18_code, 1, some .int),
  (⟨"ProgramSlicesModel", "part", "(I)I"⟩, prog_12_method_17_code, 1, some .int),
  (⟨"ProgramSlicesModel", "reads", "(II)Z"⟩, prog_12_method_21_code, 7, some .boolean),
  (⟨"ProgramSlicesModel", "fromBeginning", "(III)Z"⟩, prog_12_method_15_code, 5, some .boolean),
  (⟨"ProgramSlicesModel", "spread", "(JI)J"⟩, prog_12_method_13_code, 10, some .long),
  (⟨"ProgramSlicesModel", "defines", "(II)Z"⟩, prog_12_method_12_code, 3, some .boolean),
  (⟨"ProgramSlicesModel", "arrives", "(III)Z"⟩, prog_12_method_14_code, 5, some .boolean),
  (⟨"ProgramSlicesModel", "heap", "(II)Z"⟩, prog_12_method_24_code, 5, some .boolean),
  (⟨"ProgramSlicesModel", "path", "(II)Z"⟩, prog_12_method_11_code, 3, some .boolean),
  (⟨"ProgramSlicesModel", "halt", "(II)Z"⟩, prog_12_method_25_code, 4, some .boolean),
  (⟨"ProgramSlicesModel", "put", "([JII)V"⟩, prog_12_method_28_code, 3, none),
  (⟨"ProgramSlicesModel", "summaries", "(I)Z"⟩, prog_12_method_30_code, 8, some .boolean),
  (⟨"ProgramSlicesModel", "single", "(I)V"⟩, prog_12_method_31_code, 3, none),
  (⟨"ProgramSlicesModel", "flood", "([J[JZ)V"⟩, prog_12_method_32_code, 10, none),
  (⟨"ProgramSlicesModel", "has", "([JII)Z"⟩, prog_12_method_27_code, 3, some .boolean),
  (⟨"ProgramSlicesModel", "touches", "([J[JI)Z"⟩, prog_12_method_33_code, 7, some .boolean),
  (⟨"ProgramSlicesModel", "depends", "(II)I"⟩, prog_12_method_36_code, 9, some .int),
  (⟨"ProgramSlicesModel", "summary", "(III)Z"⟩, prog_12_method_37_code, 4, some .boolean),
  (⟨"ProgramSlicesModel", "slice", "(IZ)I"⟩, prog_12_method_38_code, 4, some .int),
  (⟨"ProgramSlicesModel", "backward", "(I)V"⟩, prog_12_method_34_code, 2, none),
  (⟨"ProgramSlicesModel", "instructions", "([J)I"⟩, prog_12_method_35_code, 4, some .int),
  (⟨"ProgramSlicesModel", "fit", "()I"⟩, prog_12_method_40_code, 4, some .int),
  (⟨"ProgramSlicesModel", "wanting", "()I"⟩, prog_12_method_39_code, 4, some .int),
  (⟨"ProgramSlicesModel", "sliced", "(I)Z"⟩, prog_12_method_41_code, 2, some .boolean),
  (⟨"ProgramSlicesModel", "input", "(II)Z"⟩, prog_12_method_42_code, 3, some .boolean),
  (⟨"ProgramSlicesModel", "run", "(ZI)I"⟩, prog_12_method_43_code, 6, some .int),
  (⟨"ProgramSlicesModel", "leave", "()I"⟩, prog_12_method_47_code, 3, some .int),
  (⟨"ProgramSlicesModel", "x", "(I)I"⟩, prog_12_method_44_code, 2, some .int),
  (⟨"ProgramSlicesModel", "become", "(II)V"⟩, prog_12_method_45_code, 3, none),
  (⟨"ProgramSlicesModel", "enter", "(I)V"⟩, prog_12_method_46_code, 4, none),
  (⟨"ProgramSlicesModel", "act", "(I)I"⟩, prog_12_method_49_code, 5, some .int),
  (⟨"ProgramSlicesModel", "computed", "(III)I"⟩, prog_12_method_50_code, 4, some .int),
  (⟨"ProgramSlicesModel", "saw", "(II)V"⟩, prog_12_method_48_code, 3, none),
  (⟨"ProgramSlicesModel", "steps", "()I"⟩, prog_12_method_51_code, 1, some .int),
  (⟨"ProgramSlicesModel", "seen", "(I)I"⟩, prog_12_method_52_code, 2, some .int),
  (⟨"ProgramSlicesModel", "written", "(II)I"⟩, prog_12_method_53_code, 3, some .int),
  (⟨"ProgramSlicesModel", "levels", "(I)Z"⟩, prog_12_method_54_code, 3, some .boolean),
  (⟨"ProgramSlicesModel", "below", "(II)Z"⟩, prog_12_method_56_code, 6, some .boolean),
  (⟨"ProgramSlicesModel", "isLevel", "(I)Z"⟩, prog_12_method_55_code, 2, some .boolean),
  (⟨"ProgramSlicesModel", "label", "(ZII)Z"⟩, prog_12_method_57_code, 4, some .boolean),
  (⟨"ProgramSlicesModel", "lattice", "()I"⟩, prog_12_method_61_code, 6, some .int),
  (⟨"ProgramSlicesModel", "under", "(II)Z"⟩, prog_12_method_58_code, 3, some .boolean),
  (⟨"ProgramSlicesModel", "join", "(III)Z"⟩, prog_12_method_59_code, 6, some .boolean),
  (⟨"ProgramSlicesModel", "bottom", "()I"⟩, prog_12_method_60_code, 4, some .int),
  (⟨"ProgramSlicesModel", "check", "()I"⟩, prog_12_method_63_code, 1, some .int),
  (⟨"ProgramSlicesModel", "search", "(I)I"⟩, prog_12_method_62_code, 6, some .int),
  (⟨"ProgramSlicesModel", "flow", "(I)I"⟩, prog_12_method_64_code, 3, some .int),
  (⟨"java/lang/Integer", "bitCount", "(I)I"⟩, prog_13_method_49_code, 1, some .int)]
def tb_m (j : Nat) : tb_Q := tb_ml.getD j (⟨"", "", ""⟩, ⟨#[]⟩, 0, none)
def tb_ys (j : Nat) : MethodName := (tb_m j).1
def tb_ws (j : Nat) : List Cond := Cond.code (tb_m j).1 (tb_m j).2.1 (tb_m j).2.2.1 (tb_m j).2.2.2 :: tb_W
def dp_lk {α : Type} : List (Nat × α) → Nat → Option α
  | [], _ => none
  | (q, a) :: t, i => bif Nat.beq q i then some a else dp_lk t i
theorem dp_lk_mem {α : Type} {l : List (Nat × α)} {i : Nat} {a : α} (h : dp_lk l i = some a) : (i, a) ∈ l := by
  induction l with
  | nil => cases h
  | cons x t ih =>
    obtain ⟨q, b⟩ := x
    have h : (bif Nat.beq q i then some b else dp_lk t i) = some a := h
    cases hb : Nat.beq q i with
    | false => rw [hb] at h; exact List.mem_cons_of_mem _ (ih h)
    | true =>
      rw [hb] at h
      have e1 := dp_beq hb
      have e2 : b = a := Option.some.inj h
      rw [e1, e2]
      exact List.mem_cons_self
