/-! the classes (printed by wip/gen.py out of the claim's tables) -/
theorem k_bulk {ws : List Cond} (ps : List Nat) (h : (ws.length == ps.length && (ws.zip ps).all fun q => decide (tables_1[q.2]? = some q.1) && goodWord q.1) = true) : ∀ w ∈ ws, w ∈ lw_gd := by
  rw [Bool.and_eq_true, beq_iff_eq] at h
  intro w hw
  obtain ⟨i, hi⟩ := List.getElem?_of_mem hw
  have hlt := (List.getElem?_eq_some_iff.mp hi).1
  have h2 : (ws.zip ps)[i]? = some (w, ps[i]'(by omega)) := by
    rw [List.getElem?_zip_eq_some]
    exact ⟨hi, List.getElem?_eq_getElem (by omega)⟩
  have h3 := List.all_eq_true.mp h.2 _ (List.mem_of_getElem? h2)
  rw [Bool.and_eq_true] at h3
  exact k_memT (of_decide_eq_true h3.1) h3.2
def k_T0 : u_T := fun k => match k with
  | 0 => ("SleepWork$Evening", "sleep", "LSleepWork$Sleep;", true)
  | 1 => ("SleepWork$Evening", "now", "LSleepWork$State;", true)
  | 2 => ("SleepWork$Evening", "trial", "LSleepWork$State;", true)
  | 3 => ("SleepWork$Evening", "told", "LSleepWork$Told;", true)
  | 4 => ("SleepWork$Evening", "house", "LSleepWork$House;", false)
  | 5 => ("SleepWork$Evening", "worthNow", "I", false)
  | 6 => ("SleepWork$Evening", "question", "I", false)
  | 7 => ("SleepWork$Evening", "questionOne", "I", false)
  | 8 => ("SleepWork$Evening", "questionTwo", "I", false)
  | 9 => ("SleepWork$Evening", "seen", "[J", false)
  | 10 => ("SleepWork$Evening", "mostGain", "I", false)
  | 11 => ("SleepWork$Evening", "idleGain", "I", false)
  | 12 => ("SleepWork$Evening", "first", "I", false)
  | 13 => ("SleepWork$Evening", "second", "I", false)
  | 14 => ("SleepWork$Evening", "fit", "[I", true)
  | _ => ("SleepWork$Evening", "fitCount", "I", false)
def k_ty0 : Nat → FieldType := fun k => match k with
  | 0 => .object "SleepWork$Sleep"
  | 1 => .object "SleepWork$State"
  | 2 => .object "SleepWork$State"
  | 3 => .object "SleepWork$Told"
  | 4 => .object "SleepWork$House"
  | 5 => .int
  | 6 => .int
  | 7 => .int
  | 8 => .int
  | 9 => .array .long
  | 10 => .int
  | 11 => .int
  | 12 => .int
  | 13 => .int
  | 14 => .array .int
  | _ => .int
theorem k_nm0 : ∀ a, a < 16 → ∀ b, b < 16 → a ≠ b → (k_T0 a).2.1 ≠ (k_T0 b).2.1 := by decide +kernel
theorem k_tyok0 : ∀ k, k < 16 → parseFieldDescriptor (k_T0 k).2.2.1 = some (k_ty0 k) := by decide +kernel
theorem k_in0 : ∀ w ∈ u_ws "SleepWork$Evening" k_T0 16, w ∈ lw_gd := k_bulk [387, 389, 391, 393, 395, 397, 399, 401, 403, 405, 407, 409, 411, 413, 415, 417] (by decide +kernel)
def k_T1 : u_T := fun k => match k with
  | 0 => ("SleepWork$House", "doorFrom", "[I", true)
  | 1 => ("SleepWork$House", "doorTo", "[I", true)
  | 2 => ("SleepWork$House", "doorMinutes", "[I", true)
  | 3 => ("SleepWork$House", "taskRoom", "[I", true)
  | 4 => ("SleepWork$House", "stepCount", "[I", true)
  | 5 => ("SleepWork$House", "stepMinutes", "[I", true)
  | 6 => ("SleepWork$House", "need", "[I", true)
  | 7 => ("SleepWork$House", "won", "[I", true)
  | 8 => ("SleepWork$House", "spoilt", "[I", true)
  | 9 => ("SleepWork$House", "stepTool", "[I", true)
  | 10 => ("SleepWork$House", "undone", "[I", true)
  | 11 => ("SleepWork$House", "home", "[I", true)
  | 12 => ("SleepWork$House", "laws", "LSleepWork$Laws;", true)
  | 13 => ("SleepWork$House", "rooms", "I", false)
  | 14 => ("SleepWork$House", "doors", "I", false)
  | 15 => ("SleepWork$House", "tools", "I", false)
  | 16 => ("SleepWork$House", "tasks", "I", false)
  | 17 => ("SleepWork$House", "men", "I", false)
  | _ => ("SleepWork$House", "minutes", "I", false)
def k_ty1 : Nat → FieldType := fun k => match k with
  | 0 => .array .int
  | 1 => .array .int
  | 2 => .array .int
  | 3 => .array .int
  | 4 => .array .int
  | 5 => .array .int
  | 6 => .array .int
  | 7 => .array .int
  | 8 => .array .int
  | 9 => .array .int
  | 10 => .array .int
  | 11 => .array .int
  | 12 => .object "SleepWork$Laws"
  | 13 => .int
  | 14 => .int
  | 15 => .int
  | 16 => .int
  | 17 => .int
  | _ => .int
theorem k_nm1 : ∀ a, a < 19 → ∀ b, b < 19 → a ≠ b → (k_T1 a).2.1 ≠ (k_T1 b).2.1 := by decide +kernel
theorem k_tyok1 : ∀ k, k < 19 → parseFieldDescriptor (k_T1 k).2.2.1 = some (k_ty1 k) := by decide +kernel
theorem k_in1 : ∀ w ∈ u_ws "SleepWork$House" k_T1 19, w ∈ lw_gd := k_bulk [266, 268, 270, 272, 274, 276, 278, 280, 282, 284, 286, 288, 290, 292, 294, 296, 298, 300, 302] (by decide +kernel)
def k_T2 : u_T := fun k => match k with
  | 0 => ("SleepWork$Laws", "start", "[I", true)
  | 1 => ("SleepWork$Laws", "code", "[I", true)
  | 2 => ("SleepWork$Laws", "value", "[I", true)
  | 3 => ("SleepWork$Laws", "stack", "[I", true)
  | _ => ("SleepWork$Laws", "length", "I", false)
def k_ty2 : Nat → FieldType := fun k => match k with
  | 0 => .array .int
  | 1 => .array .int
  | 2 => .array .int
  | 3 => .array .int
  | _ => .int
theorem k_nm2 : ∀ a, a < 5 → ∀ b, b < 5 → a ≠ b → (k_T2 a).2.1 ≠ (k_T2 b).2.1 := by decide +kernel
theorem k_tyok2 : ∀ k, k < 5 → parseFieldDescriptor (k_T2 k).2.2.1 = some (k_ty2 k) := by decide +kernel
theorem k_in2 : ∀ w ∈ u_ws "SleepWork$Laws" k_T2 5, w ∈ lw_gd := k_bulk [174, 176, 178, 180, 182] (by decide +kernel)
def k_T3 : u_T := fun k => match k with
  | 0 => ("SleepWork$Past", "evenings", "[LSleepWork$State;", true)
  | 1 => ("SleepWork$Past", "oldest", "I", false)
  | _ => ("SleepWork$Past", "size", "I", false)
def k_ty3 : Nat → FieldType := fun k => match k with
  | 0 => .array (.object "SleepWork$State")
  | 1 => .int
  | _ => .int
theorem k_nm3 : ∀ a, a < 3 → ∀ b, b < 3 → a ≠ b → (k_T3 a).2.1 ≠ (k_T3 b).2.1 := by decide +kernel
theorem k_tyok3 : ∀ k, k < 3 → parseFieldDescriptor (k_T3 k).2.2.1 = some (k_ty3 k) := by decide +kernel
theorem k_in3 : ∀ w ∈ u_ws "SleepWork$Past" k_T3 3, w ∈ lw_gd := k_bulk [131, 133, 135] (by decide +kernel)
def k_T4 : u_T := fun k => match k with
  | 0 => ("SleepWork$Reader", "scan", "LSleepWork$Scanner;", true)
  | 1 => ("SleepWork$Reader", "roomNames", "[J", true)
  | 2 => ("SleepWork$Reader", "toolNames", "[J", true)
  | 3 => ("SleepWork$Reader", "taskNames", "[J", true)
  | 4 => ("SleepWork$Reader", "manNames", "[J", true)
  | 5 => ("SleepWork$Reader", "house", "LSleepWork$House;", false)
  | 6 => ("SleepWork$Reader", "state", "LSleepWork$State;", false)
  | 7 => ("SleepWork$Reader", "token", "I", false)
  | 8 => ("SleepWork$Reader", "taken", "I", false)
  | 9 => ("SleepWork$Reader", "lawCount", "I", false)
  | 10 => ("SleepWork$Reader", "fault", "I", false)
  | 11 => ("SleepWork$Reader", "faultAt", "I", false)
  | 12 => ("SleepWork$Reader", "lateFault", "I", false)
  | _ => ("SleepWork$Reader", "lateFaultAt", "I", false)
def k_ty4 : Nat → FieldType := fun k => match k with
  | 0 => .object "SleepWork$Scanner"
  | 1 => .array .long
  | 2 => .array .long
  | 3 => .array .long
  | 4 => .array .long
  | 5 => .object "SleepWork$House"
  | 6 => .object "SleepWork$State"
  | 7 => .int
  | 8 => .int
  | 9 => .int
  | 10 => .int
  | 11 => .int
  | 12 => .int
  | _ => .int
theorem k_nm4 : ∀ a, a < 14 → ∀ b, b < 14 → a ≠ b → (k_T4 a).2.1 ≠ (k_T4 b).2.1 := by decide +kernel
theorem k_tyok4 : ∀ k, k < 14 → parseFieldDescriptor (k_T4 k).2.2.1 = some (k_ty4 k) := by decide +kernel
theorem k_in4 : ∀ w ∈ u_ws "SleepWork$Reader" k_T4 14, w ∈ lw_gd := k_bulk [518, 520, 522, 524, 526, 528, 530, 532, 534, 536, 538, 540, 542, 544] (by decide +kernel)
def k_T5 : u_T := fun k => match k with
  | 0 => ("SleepWork$Scanner", "kind", "[I", true)
  | 1 => ("SleepWork$Scanner", "from", "[I", true)
  | 2 => ("SleepWork$Scanner", "number", "[I", true)
  | 3 => ("SleepWork$Scanner", "name", "[J", true)
  | 4 => ("SleepWork$Scanner", "words", "[J", true)
  | _ => ("SleepWork$Scanner", "at", "I", false)
def k_ty5 : Nat → FieldType := fun k => match k with
  | 0 => .array .int
  | 1 => .array .int
  | 2 => .array .int
  | 3 => .array .long
  | 4 => .array .long
  | _ => .int
theorem k_nm5 : ∀ a, a < 6 → ∀ b, b < 6 → a ≠ b → (k_T5 a).2.1 ≠ (k_T5 b).2.1 := by decide +kernel
theorem k_tyok5 : ∀ k, k < 6 → parseFieldDescriptor (k_T5 k).2.2.1 = some (k_ty5 k) := by decide +kernel
theorem k_in5 : ∀ w ∈ u_ws "SleepWork$Scanner" k_T5 6, w ∈ lw_gd := k_bulk [491, 493, 495, 497, 499, 501] (by decide +kernel)
def k_T6 : u_T := fun k => match k with
  | 0 => ("SleepWork$Sleep", "ways", "LSleepWork$Ways;", true)
  | 1 => ("SleepWork$Sleep", "due", "[I", true)
  | 2 => ("SleepWork$Sleep", "doing", "[I", true)
  | 3 => ("SleepWork$Sleep", "last", "[I", true)
  | 4 => ("SleepWork$Sleep", "times", "[I", true)
  | 5 => ("SleepWork$Sleep", "sawEnd", "[I", true)
  | 6 => ("SleepWork$Sleep", "inUse", "[I", true)
  | 7 => ("SleepWork$Sleep", "facts", "[I", true)
  | 8 => ("SleepWork$Sleep", "house", "LSleepWork$House;", false)
  | _ => ("SleepWork$Sleep", "state", "LSleepWork$State;", false)
def k_ty6 : Nat → FieldType := fun k => match k with
  | 0 => .object "SleepWork$Ways"
  | 1 => .array .int
  | 2 => .array .int
  | 3 => .array .int
  | 4 => .array .int
  | 5 => .array .int
  | 6 => .array .int
  | 7 => .array .int
  | 8 => .object "SleepWork$House"
  | _ => .object "SleepWork$State"
theorem k_nm6 : ∀ a, a < 10 → ∀ b, b < 10 → a ≠ b → (k_T6 a).2.1 ≠ (k_T6 b).2.1 := by decide +kernel
theorem k_tyok6 : ∀ k, k < 10 → parseFieldDescriptor (k_T6 k).2.2.1 = some (k_ty6 k) := by decide +kernel
theorem k_in6 : ∀ w ∈ u_ws "SleepWork$Sleep" k_T6 10, w ∈ lw_gd := k_bulk [344, 346, 348, 350, 352, 354, 356, 358, 360, 362] (by decide +kernel)
def k_T7 : u_T := fun k => match k with
  | 0 => ("SleepWork$State", "done", "[I", true)
  | 1 => ("SleepWork$State", "stuff", "[I", true)
  | 2 => ("SleepWork$State", "left", "[I", true)
  | 3 => ("SleepWork$State", "toolAt", "[I", true)
  | 4 => ("SleepWork$State", "lastStrokes", "[I", true)
  | 5 => ("SleepWork$State", "allStrokes", "[I", true)
  | 6 => ("SleepWork$State", "downAt", "[I", true)
  | 7 => ("SleepWork$State", "shut", "I", false)
  | _ => ("SleepWork$State", "nights", "I", false)
def k_ty7 : Nat → FieldType := fun k => match k with
  | 0 => .array .int
  | 1 => .array .int
  | 2 => .array .int
  | 3 => .array .int
  | 4 => .array .int
  | 5 => .array .int
  | 6 => .array .int
  | 7 => .int
  | _ => .int
theorem k_nm7 : ∀ a, a < 9 → ∀ b, b < 9 → a ≠ b → (k_T7 a).2.1 ≠ (k_T7 b).2.1 := by decide +kernel
theorem k_tyok7 : ∀ k, k < 9 → parseFieldDescriptor (k_T7 k).2.2.1 = some (k_ty7 k) := by decide +kernel
theorem k_in7 : ∀ w ∈ u_ws "SleepWork$State" k_T7 9, w ∈ lw_gd := k_bulk [98, 100, 102, 104, 106, 108, 110, 112, 114] (by decide +kernel)
def k_T8 : u_T := fun k => match k with
  | 0 => ("SleepWork$Tape", "bytes", "[B", true)
  | _ => ("SleepWork$Tape", "size", "I", false)
def k_ty8 : Nat → FieldType := fun k => match k with
  | 0 => .array .byte
  | _ => .int
theorem k_nm8 : ∀ a, a < 2 → ∀ b, b < 2 → a ≠ b → (k_T8 a).2.1 ≠ (k_T8 b).2.1 := by decide +kernel
theorem k_tyok8 : ∀ k, k < 2 → parseFieldDescriptor (k_T8 k).2.2.1 = some (k_ty8 k) := by decide +kernel
theorem k_in8 : ∀ w ∈ u_ws "SleepWork$Tape" k_T8 2, w ∈ lw_gd := k_bulk [42, 44] (by decide +kernel)
def k_T9 : u_T := fun k => match k with
  | 0 => ("SleepWork$Told", "step", "[I", true)
  | 1 => ("SleepWork$Told", "times", "[I", true)
  | _ => ("SleepWork$Told", "size", "I", false)
def k_ty9 : Nat → FieldType := fun k => match k with
  | 0 => .array .int
  | 1 => .array .int
  | _ => .int
theorem k_nm9 : ∀ a, a < 3 → ∀ b, b < 3 → a ≠ b → (k_T9 a).2.1 ≠ (k_T9 b).2.1 := by decide +kernel
theorem k_tyok9 : ∀ k, k < 3 → parseFieldDescriptor (k_T9 k).2.2.1 = some (k_ty9 k) := by decide +kernel
theorem k_in9 : ∀ w ∈ u_ws "SleepWork$Told" k_T9 3, w ∈ lw_gd := k_bulk [148, 150, 152] (by decide +kernel)
def k_T10 : u_T := fun k => match k with
  | 0 => ("SleepWork$Ways", "minutes", "[I", true)
  | _ => ("SleepWork$Ways", "knownShut", "I", false)
def k_ty10 : Nat → FieldType := fun k => match k with
  | 0 => .array .int
  | _ => .int
theorem k_nm10 : ∀ a, a < 2 → ∀ b, b < 2 → a ≠ b → (k_T10 a).2.1 ≠ (k_T10 b).2.1 := by decide +kernel
theorem k_tyok10 : ∀ k, k < 2 → parseFieldDescriptor (k_T10 k).2.2.1 = some (k_ty10 k) := by decide +kernel
theorem k_in10 : ∀ w ∈ u_ws "SleepWork$Ways" k_T10 2, w ∈ lw_gd := k_bulk [327, 329] (by decide +kernel)
def k_T11 : u_T := fun k => match k with
  | 0 => ("SleepWork", "tape", "LSleepWork$Tape;", true)
  | 1 => ("SleepWork", "now", "LSleepWork$State;", true)
  | 2 => ("SleepWork", "draftState", "LSleepWork$State;", true)
  | 3 => ("SleepWork", "past", "LSleepWork$Past;", true)
  | 4 => ("SleepWork", "told", "LSleepWork$Told;", true)
  | 5 => ("SleepWork", "slots", "[LSleepWork$State;", true)
  | 6 => ("SleepWork", "evening", "LSleepWork$Evening;", true)
  | 7 => ("SleepWork", "reader", "LSleepWork$Reader;", true)
  | 8 => ("SleepWork", "house", "LSleepWork$House;", false)
  | 9 => ("SleepWork", "draft", "LSleepWork$House;", false)
  | 10 => ("SleepWork", "held", "I", false)
  | _ => ("SleepWork", "faultPlace", "I", false)
def k_ty11 : Nat → FieldType := fun k => match k with
  | 0 => .object "SleepWork$Tape"
  | 1 => .object "SleepWork$State"
  | 2 => .object "SleepWork$State"
  | 3 => .object "SleepWork$Past"
  | 4 => .object "SleepWork$Told"
  | 5 => .array (.object "SleepWork$State")
  | 6 => .object "SleepWork$Evening"
  | 7 => .object "SleepWork$Reader"
  | 8 => .object "SleepWork$House"
  | 9 => .object "SleepWork$House"
  | 10 => .int
  | _ => .int
theorem k_nm11 : ∀ a, a < 12 → ∀ b, b < 12 → a ≠ b → (k_T11 a).2.1 ≠ (k_T11 b).2.1 := by decide +kernel
theorem k_tyok11 : ∀ k, k < 12 → parseFieldDescriptor (k_T11 k).2.2.1 = some (k_ty11 k) := by decide +kernel
theorem k_in11 : ∀ w ∈ u_ws "SleepWork" k_T11 12, w ∈ lw_gd := k_bulk [559, 561, 563, 565, 567, 569, 571, 573, 575, 577, 579, 581] (by decide +kernel)
def k_T12 : u_T := fun k => match k with
  | 0 => ("SleepWorkModel", "thrown", "I", false)
  | 1 => ("SleepWorkModel", "tape", "[B", true)
  | 2 => ("SleepWorkModel", "taped", "I", false)
  | 3 => ("SleepWorkModel", "text", "[B", true)
  | 4 => ("SleepWorkModel", "size", "I", false)
  | 5 => ("SleepWorkModel", "tKind", "[I", true)
  | 6 => ("SleepWorkModel", "tPlace", "[I", true)
  | 7 => ("SleepWorkModel", "tValue", "[I", true)
  | 8 => ("SleepWorkModel", "tName", "[J", true)
  | 9 => ("SleepWorkModel", "keys", "[J", true)
  | 10 => ("SleepWorkModel", "tokens", "I", false)
  | 11 => ("SleepWorkModel", "t", "I", false)
  | 12 => ("SleepWorkModel", "open", "I", false)
  | 13 => ("SleepWorkModel", "fault", "I", false)
  | 14 => ("SleepWorkModel", "faultPlace", "I", false)
  | 15 => ("SleepWorkModel", "worst", "I", false)
  | 16 => ("SleepWorkModel", "worstPlace", "I", false)
  | 17 => ("SleepWorkModel", "place", "I", false)
  | 18 => ("SleepWorkModel", "live", "I", false)
  | 19 => ("SleepWorkModel", "side", "I", false)
  | 20 => ("SleepWorkModel", "names", "I", false)
  | 21 => ("SleepWorkModel", "nameOf", "[J", true)
  | 22 => ("SleepWorkModel", "nameSort", "[I", true)
  | 23 => ("SleepWorkModel", "nameAt", "[I", true)
  | 24 => ("SleepWorkModel", "rooms", "[I", true)
  | 25 => ("SleepWorkModel", "doors", "[I", true)
  | 26 => ("SleepWorkModel", "doorOne", "[I", true)
  | 27 => ("SleepWorkModel", "doorOther", "[I", true)
  | 28 => ("SleepWorkModel", "doorMinutes", "[I", true)
  | 29 => ("SleepWorkModel", "doorShut", "[Z", true)
  | 30 => ("SleepWorkModel", "tools", "[I", true)
  | 31 => ("SleepWorkModel", "toolTold", "[I", true)
  | 32 => ("SleepWorkModel", "tasks", "[I", true)
  | 33 => ("SleepWorkModel", "taskRoom", "[I", true)
  | 34 => ("SleepWorkModel", "stuffTold", "[I", true)
  | 35 => ("SleepWorkModel", "steps", "[I", true)
  | 36 => ("SleepWorkModel", "stepMinutes", "[I", true)
  | 37 => ("SleepWorkModel", "stepNeed", "[I", true)
  | 38 => ("SleepWorkModel", "stepGain", "[I", true)
  | 39 => ("SleepWorkModel", "stepSpoil", "[I", true)
  | 40 => ("SleepWorkModel", "stepTool", "[I", true)
  | 41 => ("SleepWorkModel", "stepUndoes", "[I", true)
  | 42 => ("SleepWorkModel", "men", "[I", true)
  | 43 => ("SleepWorkModel", "home", "[I", true)
  | 44 => ("SleepWorkModel", "leftTask", "[I", true)
  | 45 => ("SleepWorkModel", "leftStep", "[I", true)
  | 46 => ("SleepWorkModel", "laws", "[I", true)
  | 47 => ("SleepWorkModel", "lawFirst", "[I", true)
  | 48 => ("SleepWorkModel", "lawLast", "[I", true)
  | 49 => ("SleepWorkModel", "branches", "I", false)
  | 50 => ("SleepWorkModel", "hasTest", "[Z", true)
  | 51 => ("SleepWorkModel", "testFrom", "[I", true)
  | 52 => ("SleepWorkModel", "testMid", "[I", true)
  | 53 => ("SleepWorkModel", "testTo", "[I", true)
  | 54 => ("SleepWorkModel", "termTo", "[I", true)
  | 55 => ("SleepWorkModel", "nights", "[I", true)
  | 56 => ("SleepWorkModel", "codes", "I", false)
  | 57 => ("SleepWorkModel", "code", "[I", true)
  | 58 => ("SleepWorkModel", "codeInt", "[I", true)
  | 59 => ("SleepWorkModel", "waits", "[I", true)
  | 60 => ("SleepWorkModel", "waiting", "I", false)
  | 61 => ("SleepWorkModel", "variables", "[I", true)
  | 62 => ("SleepWorkModel", "pile", "[I", true)
  | 63 => ("SleepWorkModel", "isBroken", "Z", false)
  | 64 => ("SleepWorkModel", "now", "[I", true)
  | 65 => ("SleepWorkModel", "row", "[I", true)
  | 66 => ("SleepWorkModel", "far", "[I", true)
  | 67 => ("SleepWorkModel", "state", "[I", true)
  | 68 => ("SleepWorkModel", "from", "[I", true)
  | 69 => ("SleepWorkModel", "till", "[I", true)
  | 70 => ("SleepWorkModel", "doing", "[I", true)
  | 71 => ("SleepWorkModel", "lastStep", "[I", true)
  | 72 => ("SleepWorkModel", "times0", "[I", true)
  | 73 => ("SleepWorkModel", "byEnd", "[Z", true)
  | 74 => ("SleepWorkModel", "undos", "I", false)
  | 75 => ("SleepWorkModel", "history", "[I", true)
  | 76 => ("SleepWorkModel", "bestGain", "I", false)
  | 77 => ("SleepWorkModel", "told", "I", false)
  | 78 => ("SleepWorkModel", "toldTask", "[I", true)
  | 79 => ("SleepWorkModel", "toldStep", "[I", true)
  | 80 => ("SleepWorkModel", "toldTimes", "[I", true)
  | 81 => ("SleepWorkModel", "isHeld", "[Z", true)
  | _ => ("SleepWorkModel", "held", "[I", true)
def k_ty12 : Nat → FieldType := fun k => match k with
  | 0 => .int
  | 1 => .array .byte
  | 2 => .int
  | 3 => .array .byte
  | 4 => .int
  | 5 => .array .int
  | 6 => .array .int
  | 7 => .array .int
  | 8 => .array .long
  | 9 => .array .long
  | 10 => .int
  | 11 => .int
  | 12 => .int
  | 13 => .int
  | 14 => .int
  | 15 => .int
  | 16 => .int
  | 17 => .int
  | 18 => .int
  | 19 => .int
  | 20 => .int
  | 21 => .array .long
  | 22 => .array .int
  | 23 => .array .int
  | 24 => .array .int
  | 25 => .array .int
  | 26 => .array .int
  | 27 => .array .int
  | 28 => .array .int
  | 29 => .array .boolean
  | 30 => .array .int
  | 31 => .array .int
  | 32 => .array .int
  | 33 => .array .int
  | 34 => .array .int
  | 35 => .array .int
  | 36 => .array .int
  | 37 => .array .int
  | 38 => .array .int
  | 39 => .array .int
  | 40 => .array .int
  | 41 => .array .int
  | 42 => .array .int
  | 43 => .array .int
  | 44 => .array .int
  | 45 => .array .int
  | 46 => .array .int
  | 47 => .array .int
  | 48 => .array .int
  | 49 => .int
  | 50 => .array .boolean
  | 51 => .array .int
  | 52 => .array .int
  | 53 => .array .int
  | 54 => .array .int
  | 55 => .array .int
  | 56 => .int
  | 57 => .array .int
  | 58 => .array .int
  | 59 => .array .int
  | 60 => .int
  | 61 => .array .int
  | 62 => .array .int
  | 63 => .boolean
  | 64 => .array .int
  | 65 => .array .int
  | 66 => .array .int
  | 67 => .array .int
  | 68 => .array .int
  | 69 => .array .int
  | 70 => .array .int
  | 71 => .array .int
  | 72 => .array .int
  | 73 => .array .boolean
  | 74 => .int
  | 75 => .array .int
  | 76 => .int
  | 77 => .int
  | 78 => .array .int
  | 79 => .array .int
  | 80 => .array .int
  | 81 => .array .boolean
  | _ => .array .int
theorem k_nm12 : ∀ a, a < 83 → ∀ b, b < 83 → a ≠ b → (k_T12 a).2.1 ≠ (k_T12 b).2.1 := by decide +kernel
theorem k_tyok12 : ∀ k, k < 83 → parseFieldDescriptor (k_T12 k).2.2.1 = some (k_ty12 k) := by decide +kernel
theorem k_in12 : ∀ w ∈ u_ws "SleepWorkModel" k_T12 83, w ∈ lw_gd := k_bulk [1261, 1263, 1265, 1267, 1269, 1271, 1273, 1275, 1277, 1279, 1281, 1283, 1285, 1287, 1289, 1291, 1293, 1295, 1297, 1299, 1301, 1303, 1305, 1307, 1309, 1311, 1313, 1315, 1317, 1319, 1321, 1323, 1325, 1327, 1329, 1331, 1333, 1335, 1337, 1339, 1341, 1343, 1345, 1347, 1349, 1351, 1353, 1355, 1357, 1359, 1361, 1363, 1365, 1367, 1369, 1371, 1373, 1375, 1377, 1379, 1381, 1383, 1385, 1387, 1389, 1391, 1393, 1395, 1397, 1399, 1401, 1403, 1405, 1407, 1409, 1411, 1413, 1415, 1417, 1419, 1421, 1423, 1425] (by decide +kernel)
def k_cl : List vw_C := [("SleepWork$Evening", k_T0, 16), ("SleepWork$House", k_T1, 19), ("SleepWork$Laws", k_T2, 5), ("SleepWork$Past", k_T3, 3), ("SleepWork$Reader", k_T4, 14), ("SleepWork$Scanner", k_T5, 6), ("SleepWork$Sleep", k_T6, 10), ("SleepWork$State", k_T7, 9), ("SleepWork$Tape", k_T8, 2), ("SleepWork$Told", k_T9, 3), ("SleepWork$Ways", k_T10, 2), ("SleepWork", k_T11, 12), ("SleepWorkModel", k_T12, 83)]
def k_ty : Nat → Nat → FieldType := fun ci => match ci with
  | 0 => k_ty0
  | 1 => k_ty1
  | 2 => k_ty2
  | 3 => k_ty3
  | 4 => k_ty4
  | 5 => k_ty5
  | 6 => k_ty6
  | 7 => k_ty7
  | 8 => k_ty8
  | 9 => k_ty9
  | 10 => k_ty10
  | 11 => k_ty11
  | _ => k_ty12
def k_df : Nat → List Value := fun ci => match ci with
  | 0 => [.null, .null, .null, .null, .null, .int 0, .int 0, .int 0, .int 0, .null, .int 0, .int 0, .int 0, .int 0, .null, .int 0]
  | 1 => [.null, .null, .null, .null, .null, .null, .null, .null, .null, .null, .null, .null, .null, .int 0, .int 0, .int 0, .int 0, .int 0, .int 0]
  | 2 => [.null, .null, .null, .null, .int 0]
  | 3 => [.null, .int 0, .int 0]
  | 4 => [.null, .null, .null, .null, .null, .null, .null, .int 0, .int 0, .int 0, .int 0, .int 0, .int 0, .int 0]
  | 5 => [.null, .null, .null, .null, .null, .int 0]
  | 6 => [.null, .null, .null, .null, .null, .null, .null, .null, .null, .null]
  | 7 => [.null, .null, .null, .null, .null, .null, .null, .int 0, .int 0]
  | 8 => [.null, .int 0]
  | 9 => [.null, .null, .int 0]
  | 10 => [.null, .int 0]
  | 11 => [.null, .null, .null, .null, .null, .null, .null, .null, .null, .null, .int 0, .int 0]
  | _ => [.int 0, .null, .int 0, .null, .int 0, .null, .null, .null, .null, .null, .int 0, .int 0, .int 0, .int 0, .int 0, .int 0, .int 0, .int 0, .int 0, .int 0, .int 0, .null, .null, .null, .null, .null, .null, .null, .null, .null, .null, .null, .null, .null, .null, .null, .null, .null, .null, .null, .null, .null, .null, .null, .null, .null, .null, .null, .null, .int 0, .null, .null, .null, .null, .null, .null, .int 0, .null, .null, .null, .int 0, .null, .null, .int 0, .null, .null, .null, .null, .null, .null, .null, .null, .null, .null, .int 0, .null, .int 0, .int 0, .null, .null, .null, .null, .null]
def k_t (xs : Nat → Int32) (L : Nat) : gT := (k_ty, 7, xs, L)
theorem k_CL (xs : Nat → Int32) (L : Nat) : g_CL k_cl (k_t xs L) lw_gd "SleepWork$State" := by
  refine ⟨fun ci q hq => ?_, _, rfl, rfl⟩
  match ci, hq with
  | 0, hq => cases hq; exact ⟨k_in0, k_tyok0, k_nm0⟩
  | 1, hq => cases hq; exact ⟨k_in1, k_tyok1, k_nm1⟩
  | 2, hq => cases hq; exact ⟨k_in2, k_tyok2, k_nm2⟩
  | 3, hq => cases hq; exact ⟨k_in3, k_tyok3, k_nm3⟩
  | 4, hq => cases hq; exact ⟨k_in4, k_tyok4, k_nm4⟩
  | 5, hq => cases hq; exact ⟨k_in5, k_tyok5, k_nm5⟩
  | 6, hq => cases hq; exact ⟨k_in6, k_tyok6, k_nm6⟩
  | 7, hq => cases hq; exact ⟨k_in7, k_tyok7, k_nm7⟩
  | 8, hq => cases hq; exact ⟨k_in8, k_tyok8, k_nm8⟩
  | 9, hq => cases hq; exact ⟨k_in9, k_tyok9, k_nm9⟩
  | 10, hq => cases hq; exact ⟨k_in10, k_tyok10, k_nm10⟩
  | 11, hq => cases hq; exact ⟨k_in11, k_tyok11, k_nm11⟩
  | 12, hq => cases hq; exact ⟨k_in12, k_tyok12, k_nm12⟩
  | n + 13, hq => simp [k_cl] at hq
theorem k_dfok0 : ∀ j, j < 16 → defaultValue (k_ty 0 j) = vp_V (k_df 0) j := by decide +kernel
theorem k_dfok1 : ∀ j, j < 19 → defaultValue (k_ty 1 j) = vp_V (k_df 1) j := by decide +kernel
theorem k_dfok2 : ∀ j, j < 5 → defaultValue (k_ty 2 j) = vp_V (k_df 2) j := by decide +kernel
theorem k_dfok3 : ∀ j, j < 3 → defaultValue (k_ty 3 j) = vp_V (k_df 3) j := by decide +kernel
theorem k_dfok4 : ∀ j, j < 14 → defaultValue (k_ty 4 j) = vp_V (k_df 4) j := by decide +kernel
theorem k_dfok5 : ∀ j, j < 6 → defaultValue (k_ty 5 j) = vp_V (k_df 5) j := by decide +kernel
theorem k_dfok6 : ∀ j, j < 10 → defaultValue (k_ty 6 j) = vp_V (k_df 6) j := by decide +kernel
theorem k_dfok7 : ∀ j, j < 9 → defaultValue (k_ty 7 j) = vp_V (k_df 7) j := by decide +kernel
theorem k_dfok8 : ∀ j, j < 2 → defaultValue (k_ty 8 j) = vp_V (k_df 8) j := by decide +kernel
theorem k_dfok9 : ∀ j, j < 3 → defaultValue (k_ty 9 j) = vp_V (k_df 9) j := by decide +kernel
theorem k_dfok10 : ∀ j, j < 2 → defaultValue (k_ty 10 j) = vp_V (k_df 10) j := by decide +kernel
theorem k_dfok11 : ∀ j, j < 12 → defaultValue (k_ty 11 j) = vp_V (k_df 11) j := by decide +kernel
theorem k_dfok12 : ∀ j, j < 83 → defaultValue (k_ty 12 j) = vp_V (k_df 12) j := by decide +kernel
theorem k_DF (xs : Nat → Int32) (L : Nat) : g_DF k_cl (k_t xs L) k_df := by
  intro ci q hq
  match ci, hq with
  | 0, hq => cases hq; exact ⟨rfl, k_dfok0, fun _ _ => rfl⟩
  | 1, hq => cases hq; exact ⟨rfl, k_dfok1, fun _ _ => rfl⟩
  | 2, hq => cases hq; exact ⟨rfl, k_dfok2, fun _ _ => rfl⟩
  | 3, hq => cases hq; exact ⟨rfl, k_dfok3, fun _ _ => rfl⟩
  | 4, hq => cases hq; exact ⟨rfl, k_dfok4, fun _ _ => rfl⟩
  | 5, hq => cases hq; exact ⟨rfl, k_dfok5, fun _ _ => rfl⟩
  | 6, hq => cases hq; exact ⟨rfl, k_dfok6, fun _ _ => rfl⟩
  | 7, hq => cases hq; exact ⟨rfl, k_dfok7, fun _ _ => rfl⟩
  | 8, hq => cases hq; exact ⟨rfl, k_dfok8, fun _ _ => rfl⟩
  | 9, hq => cases hq; exact ⟨rfl, k_dfok9, fun _ _ => rfl⟩
  | 10, hq => cases hq; exact ⟨rfl, k_dfok10, fun _ _ => rfl⟩
  | 11, hq => cases hq; exact ⟨rfl, k_dfok11, fun _ _ => rfl⟩
  | 12, hq => cases hq; exact ⟨rfl, k_dfok12, fun _ _ => rfl⟩
  | n + 13, hq => simp [k_cl] at hq
def k_tn : Nat → String × Nat × String := fun j => match j with
  | 0 => ("SleepWork$Scanner", 26, "room door tool task step man law night shut with undoes left if then else last done steps minute stuff times ")
  | _ => ("SleepWork$Scanner", 71, ";=+-*/<()")
def k_tb : List (List Int32) := [[114, 111, 111, 109, 32, 100, 111, 111, 114, 32, 116, 111, 111, 108, 32, 116, 97, 115, 107, 32, 115, 116, 101, 112, 32, 109, 97, 110, 32, 108, 97, 119, 32, 110, 105, 103, 104, 116, 32, 115, 104, 117, 116, 32, 119, 105, 116, 104, 32, 117, 110, 100, 111, 101, 115, 32, 108, 101, 102, 116, 32, 105, 102, 32, 116, 104, 101, 110, 32, 101, 108, 115, 101, 32, 108, 97, 115, 116, 32, 100, 111, 110, 101, 32, 115, 116, 101, 112, 115, 32, 109, 105, 110, 117, 116, 101, 32, 115, 116, 117, 102, 102, 32, 116, 105, 109, 101, 115, 32], [59, 61, 43, 45, 42, 47, 60, 40, 41]]
