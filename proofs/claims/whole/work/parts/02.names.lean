/-! names, by program out of the tables and the listing: classes, fields, the objects that the two constructors make, in their order -/
def cT0 : u_T := fun k => match k with
  | 0 => ("YawnRoute$Deeds", "net", "LYawnRoute$Net;", true)
  | 1 => ("YawnRoute$Deeds", "state", "LYawnRoute$State;", true)
  | 2 => ("YawnRoute$Deeds", "trays", "LYawnRoute$Trays;", true)
  | 3 => ("YawnRoute$Deeds", "trial", "LYawnRoute$State;", true)
  | 4 => ("YawnRoute$Deeds", "why", "I", false)
  | 5 => ("YawnRoute$Deeds", "kept", "I", false)
  | 6 => ("YawnRoute$Deeds", "past", "[LYawnRoute$State;", true)
  | 7 => ("YawnRoute$Deeds", "head", "I", false)
  | 8 => ("YawnRoute$Deeds", "drawn", "I", false)
  | _ => ("YawnRoute$Deeds", "alike", "[I", true)
def cY0 : Nat → FieldType := fun k => match k with
  | 0 => .object "YawnRoute$Net"
  | 1 => .object "YawnRoute$State"
  | 2 => .object "YawnRoute$Trays"
  | 3 => .object "YawnRoute$State"
  | 4 => .int
  | 5 => .int
  | 6 => .array (.object "YawnRoute$State")
  | 7 => .int
  | 8 => .int
  | _ => .array .int
def cT1 : u_T := fun k => match k with
  | 0 => ("YawnRoute$LawReader", "tape", "LYawnRoute$Tape;", true)
  | _ => ("YawnRoute$LawReader", "net", "LYawnRoute$Net;", true)
def cY1 : Nat → FieldType := fun k => match k with
  | 0 => .object "YawnRoute$Tape"
  | _ => .object "YawnRoute$Net"
def cT2 : u_T := fun k => match k with
  | 0 => ("YawnRoute$Net", "stations", "I", false)
  | 1 => ("YawnRoute$Net", "lines", "I", false)
  | 2 => ("YawnRoute$Net", "kind", "[I", true)
  | 3 => ("YawnRoute$Net", "hours", "[I", true)
  | 4 => ("YawnRoute$Net", "odds", "[I", true)
  | 5 => ("YawnRoute$Net", "code", "[I", true)
  | 6 => ("YawnRoute$Net", "codes", "I", false)
  | 7 => ("YawnRoute$Net", "takesFrom", "I", false)
  | 8 => ("YawnRoute$Net", "takesTo", "I", false)
  | 9 => ("YawnRoute$Net", "passesFrom", "I", false)
  | 10 => ("YawnRoute$Net", "passesTo", "I", false)
  | 11 => ("YawnRoute$Net", "asked", "[I", true)
  | _ => ("YawnRoute$Net", "stack", "[I", true)
def cY2 : Nat → FieldType := fun k => match k with
  | 0 => .int
  | 1 => .int
  | 2 => .array .int
  | 3 => .array .int
  | 4 => .array .int
  | 5 => .array .int
  | 6 => .int
  | 7 => .int
  | 8 => .int
  | 9 => .int
  | 10 => .int
  | 11 => .array .int
  | _ => .array .int
def cT3 : u_T := fun k => match k with
  | 0 => ("YawnRoute$NetReader", "tape", "LYawnRoute$Tape;", true)
  | 1 => ("YawnRoute$NetReader", "net", "LYawnRoute$Net;", true)
  | 2 => ("YawnRoute$NetReader", "start", "LYawnRoute$State;", true)
  | _ => ("YawnRoute$NetReader", "laws", "LYawnRoute$LawReader;", true)
def cY3 : Nat → FieldType := fun k => match k with
  | 0 => .object "YawnRoute$Tape"
  | 1 => .object "YawnRoute$Net"
  | 2 => .object "YawnRoute$State"
  | _ => .object "YawnRoute$LawReader"
def cT4 : u_T := fun k => match k with
  | 0 => ("YawnRoute$Passings", "net", "LYawnRoute$Net;", true)
  | 1 => ("YawnRoute$Passings", "state", "LYawnRoute$State;", true)
  | 2 => ("YawnRoute$Passings", "brought", "[B", true)
  | 3 => ("YawnRoute$Passings", "dullThen", "[I", true)
  | 4 => ("YawnRoute$Passings", "sizes", "[J", true)
  | 5 => ("YawnRoute$Passings", "reached", "[I", true)
  | _ => ("YawnRoute$Passings", "found", "I", false)
def cY4 : Nat → FieldType := fun k => match k with
  | 0 => .object "YawnRoute$Net"
  | 1 => .object "YawnRoute$State"
  | 2 => .array .byte
  | 3 => .array .int
  | 4 => .array .long
  | 5 => .array .int
  | _ => .int
def cT5 : u_T := fun k => match k with
  | 0 => ("YawnRoute$Routes", "net", "LYawnRoute$Net;", true)
  | 1 => ("YawnRoute$Routes", "state", "LYawnRoute$State;", true)
  | 2 => ("YawnRoute$Routes", "passings", "LYawnRoute$Passings;", true)
  | 3 => ("YawnRoute$Routes", "cost", "[I", true)
  | _ => ("YawnRoute$Routes", "byHours", "Z", false)
def cY5 : Nat → FieldType := fun k => match k with
  | 0 => .object "YawnRoute$Net"
  | 1 => .object "YawnRoute$State"
  | 2 => .object "YawnRoute$Passings"
  | 3 => .array .int
  | _ => .boolean
def cT6 : u_T := fun k => match k with
  | 0 => ("YawnRoute$Spreading", "net", "LYawnRoute$Net;", true)
  | 1 => ("YawnRoute$Spreading", "state", "LYawnRoute$State;", true)
  | 2 => ("YawnRoute$Spreading", "passings", "LYawnRoute$Passings;", true)
  | 3 => ("YawnRoute$Spreading", "sizes", "[I", true)
  | 4 => ("YawnRoute$Spreading", "others", "[I", true)
  | _ => ("YawnRoute$Spreading", "ahead", "[I", true)
def cY6 : Nat → FieldType := fun k => match k with
  | 0 => .object "YawnRoute$Net"
  | 1 => .object "YawnRoute$State"
  | 2 => .object "YawnRoute$Passings"
  | 3 => .array .int
  | 4 => .array .int
  | _ => .array .int
def cT7 : u_T := fun k => match k with
  | 0 => ("YawnRoute$State", "where", "I", false)
  | 1 => ("YawnRoute$State", "size", "I", false)
  | 2 => ("YawnRoute$State", "hours", "I", false)
  | 3 => ("YawnRoute$State", "asleep", "I", false)
  | _ => ("YawnRoute$State", "dull", "[I", true)
def cY7 : Nat → FieldType := fun k => match k with
  | 0 => .int
  | 1 => .int
  | 2 => .int
  | 3 => .int
  | _ => .array .int
def cT8 : u_T := fun k => match k with
  | 0 => ("YawnRoute$Steps", "net", "LYawnRoute$Net;", true)
  | 1 => ("YawnRoute$Steps", "state", "LYawnRoute$State;", true)
  | 2 => ("YawnRoute$Steps", "passings", "LYawnRoute$Passings;", true)
  | 3 => ("YawnRoute$Steps", "routes", "[[I", true)
  | 4 => ("YawnRoute$Steps", "sure", "[[I", true)
  | _ => ("YawnRoute$Steps", "share", "[[I", true)
def cY8 : Nat → FieldType := fun k => match k with
  | 0 => .object "YawnRoute$Net"
  | 1 => .object "YawnRoute$State"
  | 2 => .object "YawnRoute$Passings"
  | 3 => .array (.array .int)
  | 4 => .array (.array .int)
  | _ => .array (.array .int)
def cT9 : u_T := fun k => match k with
  | 0 => ("YawnRoute$Tape", "bytes", "[B", true)
  | 1 => ("YawnRoute$Tape", "fed", "I", false)
  | 2 => ("YawnRoute$Tape", "end", "I", false)
  | 3 => ("YawnRoute$Tape", "at", "I", false)
  | 4 => ("YawnRoute$Tape", "place", "I", false)
  | 5 => ("YawnRoute$Tape", "token", "I", false)
  | 6 => ("YawnRoute$Tape", "value", "I", false)
  | 7 => ("YawnRoute$Tape", "fault", "I", false)
  | _ => ("YawnRoute$Tape", "faultPlace", "I", false)
def cY9 : Nat → FieldType := fun k => match k with
  | 0 => .array .byte
  | 1 => .int
  | 2 => .int
  | 3 => .int
  | 4 => .int
  | 5 => .int
  | 6 => .int
  | 7 => .int
  | _ => .int
def cT10 : u_T := fun k => match k with
  | 0 => ("YawnRoute$Trays", "numbers", "[[J", true)
  | 1 => ("YawnRoute$Trays", "sort", "[I", true)
  | _ => ("YawnRoute$Trays", "length", "[I", true)
def cY10 : Nat → FieldType := fun k => match k with
  | 0 => .array (.array .long)
  | 1 => .array .int
  | _ => .array .int
def cT11 : u_T := fun k => match k with
  | 0 => ("YawnRoute", "tape", "LYawnRoute$Tape;", true)
  | 1 => ("YawnRoute", "reader", "LYawnRoute$NetReader;", true)
  | 2 => ("YawnRoute", "net", "LYawnRoute$Net;", true)
  | 3 => ("YawnRoute", "state", "LYawnRoute$State;", true)
  | 4 => ("YawnRoute", "trays", "LYawnRoute$Trays;", true)
  | 5 => ("YawnRoute", "deeds", "LYawnRoute$Deeds;", true)
  | 6 => ("YawnRoute", "passings", "LYawnRoute$Passings;", true)
  | 7 => ("YawnRoute", "routes", "LYawnRoute$Routes;", true)
  | 8 => ("YawnRoute", "spreading", "LYawnRoute$Spreading;", true)
  | 9 => ("YawnRoute", "steps", "LYawnRoute$Steps;", true)
  | 10 => ("YawnRoute", "imageNets", "[LYawnRoute$Net;", true)
  | 11 => ("YawnRoute", "imageStates", "[LYawnRoute$State;", true)
  | _ => ("YawnRoute", "imageMade", "[Z", true)
def cY11 : Nat → FieldType := fun k => match k with
  | 0 => .object "YawnRoute$Tape"
  | 1 => .object "YawnRoute$NetReader"
  | 2 => .object "YawnRoute$Net"
  | 3 => .object "YawnRoute$State"
  | 4 => .object "YawnRoute$Trays"
  | 5 => .object "YawnRoute$Deeds"
  | 6 => .object "YawnRoute$Passings"
  | 7 => .object "YawnRoute$Routes"
  | 8 => .object "YawnRoute$Spreading"
  | 9 => .object "YawnRoute$Steps"
  | 10 => .array (.object "YawnRoute$Net")
  | 11 => .array (.object "YawnRoute$State")
  | _ => .array .boolean
def cT12 : u_T := fun k => match k with
  | 0 => ("YawnRouteModel", "thrown", "I", false)
  | 1 => ("YawnRouteModel", "all", "[I", true)
  | 2 => ("YawnRouteModel", "hasImage", "[Z", true)
  | 3 => ("YawnRouteModel", "tape", "[I", true)
  | 4 => ("YawnRouteModel", "fresh", "[I", true)
  | 5 => ("YawnRouteModel", "taped", "I", false)
  | 6 => ("YawnRouteModel", "at", "I", false)
  | 7 => ("YawnRouteModel", "behind", "I", false)
  | 8 => ("YawnRouteModel", "size", "I", false)
  | 9 => ("YawnRouteModel", "kind", "I", false)
  | 10 => ("YawnRouteModel", "number", "I", false)
  | 11 => ("YawnRouteModel", "wrong", "I", false)
  | 12 => ("YawnRouteModel", "wrongAt", "I", false)
  | 13 => ("YawnRouteModel", "faultKind", "I", false)
  | 14 => ("YawnRouteModel", "faultPlace", "I", false)
  | 15 => ("YawnRouteModel", "reckoned", "[I", true)
  | 16 => ("YawnRouteModel", "words", "[I", true)
  | 17 => ("YawnRouteModel", "was", "[I", true)
  | 18 => ("YawnRouteModel", "toldWhy", "I", false)
  | 19 => ("YawnRouteModel", "x", "I", false)
  | 20 => ("YawnRouteModel", "then", "[I", true)
  | 21 => ("YawnRouteModel", "far", "[I", true)
  | 22 => ("YawnRouteModel", "reached", "[Z", true)
  | 23 => ("YawnRouteModel", "has", "[I", true)
  | 24 => ("YawnRouteModel", "had", "[I", true)
  | 25 => ("YawnRouteModel", "other", "[I", true)
  | 26 => ("YawnRouteModel", "many", "[J", true)
  | 27 => ("YawnRouteModel", "often", "[I", true)
  | 28 => ("YawnRouteModel", "likely", "[J", true)
  | 29 => ("YawnRouteModel", "likelyThen", "[J", true)
  | 30 => ("YawnRouteModel", "rowSort", "[I", true)
  | 31 => ("YawnRouteModel", "rowMany", "[I", true)
  | _ => ("YawnRouteModel", "numbers", "[J", true)
def cY12 : Nat → FieldType := fun k => match k with
  | 0 => .int
  | 1 => .array .int
  | 2 => .array .boolean
  | 3 => .array .int
  | 4 => .array .int
  | 5 => .int
  | 6 => .int
  | 7 => .int
  | 8 => .int
  | 9 => .int
  | 10 => .int
  | 11 => .int
  | 12 => .int
  | 13 => .int
  | 14 => .int
  | 15 => .array .int
  | 16 => .array .int
  | 17 => .array .int
  | 18 => .int
  | 19 => .int
  | 20 => .array .int
  | 21 => .array .int
  | 22 => .array .boolean
  | 23 => .array .int
  | 24 => .array .int
  | 25 => .array .int
  | 26 => .array .long
  | 27 => .array .int
  | 28 => .array .long
  | 29 => .array .long
  | 30 => .array .int
  | 31 => .array .int
  | _ => .array .long
abbrev classes : List vw_C := [("YawnRoute$Deeds", cT0, 10), ("YawnRoute$LawReader", cT1, 2), ("YawnRoute$Net", cT2, 13), ("YawnRoute$NetReader", cT3, 4), ("YawnRoute$Passings", cT4, 7), ("YawnRoute$Routes", cT5, 5), ("YawnRoute$Spreading", cT6, 6), ("YawnRoute$State", cT7, 5), ("YawnRoute$Steps", cT8, 6), ("YawnRoute$Tape", cT9, 9), ("YawnRoute$Trays", cT10, 3), ("YawnRoute", cT11, 13), ("YawnRouteModel", cT12, 33)]
def cN (ci : Nat) : String := (classes.getD ci ("", cT0, 0)).1
def cT (ci : Nat) : u_T := (classes.getD ci ("", cT0, 0)).2.1
def cF (ci : Nat) : Nat := (classes.getD ci ("", cT0, 0)).2.2
def cY (ci : Nat) : Nat → FieldType := match ci with
  | 0 => cY0
  | 1 => cY1
  | 2 => cY2
  | 3 => cY3
  | 4 => cY4
  | 5 => cY5
  | 6 => cY6
  | 7 => cY7
  | 8 => cY8
  | 9 => cY9
  | 10 => cY10
  | 11 => cY11
  | _ => cY12
def ety : Nat → FieldType := fun k => match k with
  | 0 => .int | 1 => .byte | 2 => .boolean | 3 => .long | 4 => .object "YawnRoute$State" | 5 => .object "YawnRoute$Net" | 6 => .array .int | _ => .array .long
/-- what the k-th object is: of a class, or a row of so many -/
def shL : List (Nat ⊕ (Nat × Nat)) := [.inl 11, .inl 9, .inr (1, 900), .inl 3, .inl 2, .inr (0, 7), .inr (0, 49), .inr (0, 49), .inr (0, 900), .inr (0, 6), .inr (0, 64), .inl 7, .inr (0, 7), .inl 1, .inl 2, .inr (0, 7), .inr (0, 49), .inr (0, 49), .inr (0, 900), .inr (0, 6), .inr (0, 64), .inl 7, .inr (0, 7), .inl 10, .inr (7, 4), .inr (3, 40), .inr (3, 40), .inr (3, 40), .inr (3, 40), .inr (0, 4), .inr (0, 4), .inl 0, .inl 7, .inr (0, 7), .inr (4, 11), .inr (0, 41), .inl 7, .inr (0, 7), .inl 7, .inr (0, 7), .inl 7, .inr (0, 7), .inl 7, .inr (0, 7), .inl 7, .inr (0, 7), .inl 7, .inr (0, 7), .inl 7, .inr (0, 7), .inl 7, .inr (0, 7), .inl 7, .inr (0, 7), .inl 7, .inr (0, 7), .inl 7, .inr (0, 7), .inl 4, .inr (1, 1960), .inr (0, 7), .inr (3, 7), .inr (0, 280), .inl 5, .inr (0, 280), .inl 6, .inr (0, 7), .inr (0, 7), .inr (0, 7), .inl 8, .inr (6, 11), .inr (0, 280), .inr (0, 280), .inr (0, 280), .inr (0, 280), .inr (0, 280), .inr (0, 280), .inr (0, 280), .inr (0, 280), .inr (0, 280), .inr (0, 280), .inr (0, 280), .inr (6, 2), .inr (0, 280), .inr (0, 280), .inr (6, 2), .inr (0, 280), .inr (0, 280), .inr (5, 2), .inl 2, .inr (0, 7), .inr (0, 49), .inr (0, 49), .inr (0, 900), .inr (0, 6), .inr (0, 64), .inl 2, .inr (0, 7), .inr (0, 49), .inr (0, 49), .inr (0, 900), .inr (0, 6), .inr (0, 64), .inr (4, 2), .inl 7, .inr (0, 7), .inl 7, .inr (0, 7), .inr (2, 2), .inl 12, .inr (0, 3408), .inr (2, 2), .inr (0, 900), .inr (0, 1136), .inr (0, 900), .inr (0, 6), .inr (0, 11), .inr (0, 2009), .inr (0, 287), .inr (2, 287), .inr (0, 7), .inr (0, 7), .inr (0, 7), .inr (3, 3157), .inr (0, 41), .inr (3, 287), .inr (3, 287), .inr (0, 4), .inr (0, 4), .inr (3, 160)]
def sh (k : Nat) : Nat ⊕ (Nat × Nat) := shL.getD k (.inr (9, 0))
def rfL : List (List (Option Nat)) := [[some 1, some 3, some 14, some 21, some 23, some 31, some 58, some 63, some 65, some 69, some 88, some 103, some 108], [some 2, none, none, none, none, none, none, none, none], [], [some 1, some 4, some 11, some 13], [none, none, some 5, some 6, some 7, some 8, none, none, none, none, none, some 9, some 10], [], [], [], [], [], [], [none, none, none, none, some 12], [], [some 1, some 4], [none, none, some 15, some 16, some 17, some 18, none, none, none, none, none, some 19, some 20], [], [], [], [], [], [], [none, none, none, none, some 22], [], [some 24, some 29, some 30], [some 25, some 26, some 27, some 28], [], [], [], [], [], [], [some 14, some 21, some 23, some 32, none, none, some 34, none, none, some 35], [none, none, none, none, some 33], [], [some 36, some 38, some 40, some 42, some 44, some 46, some 48, some 50, some 52, some 54, some 56], [], [none, none, none, none, some 37], [], [none, none, none, none, some 39], [], [none, none, none, none, some 41], [], [none, none, none, none, some 43], [], [none, none, none, none, some 45], [], [none, none, none, none, some 47], [], [none, none, none, none, some 49], [], [none, none, none, none, some 51], [], [none, none, none, none, some 53], [], [none, none, none, none, some 55], [], [none, none, none, none, some 57], [], [some 14, some 21, some 59, some 60, some 61, some 62, none], [], [], [], [], [some 14, some 21, some 58, some 64, none], [], [some 14, some 21, some 58, some 66, some 67, some 68], [], [], [], [some 14, some 21, some 58, some 70, some 82, some 85], [some 71, some 72, some 73, some 74, some 75, some 76, some 77, some 78, some 79, some 80, some 81], [], [], [], [], [], [], [], [], [], [], [], [some 83, some 84], [], [], [some 86, some 87], [], [], [some 89, some 96], [none, none, some 90, some 91, some 92, some 93, none, none, none, none, none, some 94, some 95], [], [], [], [], [], [], [none, none, some 97, some 98, some 99, some 100, none, none, none, none, none, some 101, some 102], [], [], [], [], [], [], [some 104, some 106], [none, none, none, none, some 105], [], [none, none, none, none, some 107], [], [], [none, some 110, some 111, some 112, some 113, none, none, none, none, none, none, none, none, none, none, some 114, some 115, some 116, none, none, some 117, some 118, some 119, some 120, some 121, some 122, some 123, some 124, some 125, some 126, some 127, some 128, some 129], [], [], [], [], [], [], [], [], [], [], [], [], [], [], [], [], [], [], [], []]
def rf (k j : Nat) : Option Nat := (rfL.getD k []).getD j none
abbrev nOb : Nat := 130
def szOf (k : Nat) : Nat := match sh k with | .inl c => cF c | .inr q => q.2
def tot : Nat → Nat | 0 => 0 | k + 1 => tot k + szOf k
/-- the words that every method may have -/
def lw_gd : List Cond := lw_tbl.filter goodWord
theorem mem_gd {w : Cond} (h : w ∈ lw_tbl) (g : goodWord w = true) : w ∈ lw_gd := List.mem_filter.mpr ⟨h, g⟩
theorem inW0 : ∀ w ∈ u_ws "YawnRoute$Deeds" cT0 10, w ∈ lw_gd := by
  intro w hw
  refine mem_gd (List.mem_append_right _ ?_) ?_
  · revert w
    decide +kernel
  · revert w
    decide +kernel
theorem inW1 : ∀ w ∈ u_ws "YawnRoute$LawReader" cT1 2, w ∈ lw_gd := by
  intro w hw
  refine mem_gd (List.mem_append_right _ ?_) ?_
  · revert w
    decide +kernel
  · revert w
    decide +kernel
theorem inW2 : ∀ w ∈ u_ws "YawnRoute$Net" cT2 13, w ∈ lw_gd := by
  intro w hw
  refine mem_gd (List.mem_append_right _ ?_) ?_
  · revert w
    decide +kernel
  · revert w
    decide +kernel
theorem inW3 : ∀ w ∈ u_ws "YawnRoute$NetReader" cT3 4, w ∈ lw_gd := by
  intro w hw
  refine mem_gd (List.mem_append_right _ ?_) ?_
  · revert w
    decide +kernel
  · revert w
    decide +kernel
theorem inW4 : ∀ w ∈ u_ws "YawnRoute$Passings" cT4 7, w ∈ lw_gd := by
  intro w hw
  refine mem_gd (List.mem_append_right _ ?_) ?_
  · revert w
    decide +kernel
  · revert w
    decide +kernel
theorem inW5 : ∀ w ∈ u_ws "YawnRoute$Routes" cT5 5, w ∈ lw_gd := by
  intro w hw
  refine mem_gd (List.mem_append_right _ ?_) ?_
  · revert w
    decide +kernel
  · revert w
    decide +kernel
theorem inW6 : ∀ w ∈ u_ws "YawnRoute$Spreading" cT6 6, w ∈ lw_gd := by
  intro w hw
  refine mem_gd (List.mem_append_right _ ?_) ?_
  · revert w
    decide +kernel
  · revert w
    decide +kernel
theorem inW7 : ∀ w ∈ u_ws "YawnRoute$State" cT7 5, w ∈ lw_gd := by
  intro w hw
  refine mem_gd (List.mem_append_right _ ?_) ?_
  · revert w
    decide +kernel
  · revert w
    decide +kernel
theorem inW8 : ∀ w ∈ u_ws "YawnRoute$Steps" cT8 6, w ∈ lw_gd := by
  intro w hw
  refine mem_gd (List.mem_append_right _ ?_) ?_
  · revert w
    decide +kernel
  · revert w
    decide +kernel
theorem inW9 : ∀ w ∈ u_ws "YawnRoute$Tape" cT9 9, w ∈ lw_gd := by
  intro w hw
  refine mem_gd (List.mem_append_right _ ?_) ?_
  · revert w
    decide +kernel
  · revert w
    decide +kernel
theorem inW10 : ∀ w ∈ u_ws "YawnRoute$Trays" cT10 3, w ∈ lw_gd := by
  intro w hw
  refine mem_gd (List.mem_append_right _ ?_) ?_
  · revert w
    decide +kernel
  · revert w
    decide +kernel
theorem inW11 : ∀ w ∈ u_ws "YawnRoute" cT11 13, w ∈ lw_gd := by
  intro w hw
  refine mem_gd (List.mem_append_right _ ?_) ?_
  · revert w
    decide +kernel
  · revert w
    decide +kernel
theorem inW12 : ∀ w ∈ u_ws "YawnRouteModel" cT12 33, w ∈ lw_gd := by
  intro w hw
  refine mem_gd (List.mem_append_right _ ?_) ?_
  · revert w
    decide +kernel
  · revert w
    decide +kernel
theorem tqp : ∀ w ∈ k2_sels lw_privs, w ∈ lw_tbl := fun w h => List.mem_append_left _ h
def rrp_0 := List.forall_mem_cons.mp tqp
theorem lp0_ : Cond.selects "YawnRoute$Tape" ⟨"YawnRoute$Tape", "byteAt", "(I)I"⟩ ⟨"YawnRoute$Tape", "byteAt", "(I)I"⟩ ∈ lw_gd := mem_gd rrp_0.1 rfl
def rrp_1 := List.forall_mem_cons.mp rrp_0.2
theorem lp1_ : Cond.selects "YawnRoute$Tape" ⟨"YawnRoute$Tape", "readNumber", "()V"⟩ ⟨"YawnRoute$Tape", "readNumber", "()V"⟩ ∈ lw_gd := mem_gd rrp_1.1 rfl
def rrp_2 := List.forall_mem_cons.mp rrp_1.2
theorem lp2_ : Cond.selects "YawnRoute$Tape" ⟨"YawnRoute$Tape", "readWord", "()V"⟩ ⟨"YawnRoute$Tape", "readWord", "()V"⟩ ∈ lw_gd := mem_gd rrp_2.1 rfl
def rrp_3 := List.forall_mem_cons.mp rrp_2.2
theorem lp3_ : Cond.selects "YawnRoute$NetReader" ⟨"YawnRoute$NetReader", "readStation", "()V"⟩ ⟨"YawnRoute$NetReader", "readStation", "()V"⟩ ∈ lw_gd := mem_gd rrp_3.1 rfl
def rrp_4 := List.forall_mem_cons.mp rrp_3.2
theorem lp4_ : Cond.selects "YawnRoute$NetReader" ⟨"YawnRoute$NetReader", "readFlag", "(I)Z"⟩ ⟨"YawnRoute$NetReader", "readFlag", "(I)Z"⟩ ∈ lw_gd := mem_gd rrp_4.1 rfl
def rrp_5 := List.forall_mem_cons.mp rrp_4.2
theorem lp5_ : Cond.selects "YawnRoute$NetReader" ⟨"YawnRoute$NetReader", "readWay", "()V"⟩ ⟨"YawnRoute$NetReader", "readWay", "()V"⟩ ∈ lw_gd := mem_gd rrp_5.1 rfl
def rrp_6 := List.forall_mem_cons.mp rrp_5.2
theorem lp6_ : Cond.selects "YawnRoute$NetReader" ⟨"YawnRoute$NetReader", "readTold", "(I)I"⟩ ⟨"YawnRoute$NetReader", "readTold", "(I)I"⟩ ∈ lw_gd := mem_gd rrp_6.1 rfl
def rrp_7 := List.forall_mem_cons.mp rrp_6.2
theorem lp7_ : Cond.selects "YawnRoute$NetReader" ⟨"YawnRoute$NetReader", "readAt", "()V"⟩ ⟨"YawnRoute$NetReader", "readAt", "()V"⟩ ∈ lw_gd := mem_gd rrp_7.1 rfl
def rrp_8 := List.forall_mem_cons.mp rrp_7.2
theorem lp8_ : Cond.selects "YawnRoute$NetReader" ⟨"YawnRoute$NetReader", "readTakes", "()V"⟩ ⟨"YawnRoute$NetReader", "readTakes", "()V"⟩ ∈ lw_gd := mem_gd rrp_8.1 rfl
def rrp_9 := List.forall_mem_cons.mp rrp_8.2
theorem lp9_ : Cond.selects "YawnRoute$LawReader" ⟨"YawnRoute$LawReader", "readTruth", "(I)V"⟩ ⟨"YawnRoute$LawReader", "readTruth", "(I)V"⟩ ∈ lw_gd := mem_gd rrp_9.1 rfl
def rrp_10 := List.forall_mem_cons.mp rrp_9.2
theorem lp10_ : Cond.selects "YawnRoute$LawReader" ⟨"YawnRoute$LawReader", "readBoth", "(I)V"⟩ ⟨"YawnRoute$LawReader", "readBoth", "(I)V"⟩ ∈ lw_gd := mem_gd rrp_10.1 rfl
def rrp_11 := List.forall_mem_cons.mp rrp_10.2
theorem lp11_ : Cond.selects "YawnRoute$LawReader" ⟨"YawnRoute$LawReader", "readUnit", "(I)V"⟩ ⟨"YawnRoute$LawReader", "readUnit", "(I)V"⟩ ∈ lw_gd := mem_gd rrp_11.1 rfl
def rrp_12 := List.forall_mem_cons.mp rrp_11.2
theorem lp12_ : Cond.selects "YawnRoute$LawReader" ⟨"YawnRoute$LawReader", "opens", "(I)Z"⟩ ⟨"YawnRoute$LawReader", "opens", "(I)Z"⟩ ∈ lw_gd := mem_gd rrp_12.1 rfl
def rrp_13 := List.forall_mem_cons.mp rrp_12.2
theorem lp13_ : Cond.selects "YawnRoute$LawReader" ⟨"YawnRoute$LawReader", "readComparison", "(I)V"⟩ ⟨"YawnRoute$LawReader", "readComparison", "(I)V"⟩ ∈ lw_gd := mem_gd rrp_13.1 rfl
def rrp_14 := List.forall_mem_cons.mp rrp_13.2
theorem lp14_ : Cond.selects "YawnRoute$LawReader" ⟨"YawnRoute$LawReader", "readSum", "(I)V"⟩ ⟨"YawnRoute$LawReader", "readSum", "(I)V"⟩ ∈ lw_gd := mem_gd rrp_14.1 rfl
def rrp_15 := List.forall_mem_cons.mp rrp_14.2
theorem lp15_ : Cond.selects "YawnRoute$LawReader" ⟨"YawnRoute$LawReader", "readTerm", "(I)V"⟩ ⟨"YawnRoute$LawReader", "readTerm", "(I)V"⟩ ∈ lw_gd := mem_gd rrp_15.1 rfl
def rrp_16 := List.forall_mem_cons.mp rrp_15.2
theorem lp16_ : Cond.selects "YawnRoute$LawReader" ⟨"YawnRoute$LawReader", "readAtom", "(I)V"⟩ ⟨"YawnRoute$LawReader", "readAtom", "(I)V"⟩ ∈ lw_gd := mem_gd rrp_16.1 rfl
def rrp_17 := List.forall_mem_cons.mp rrp_16.2
theorem lp17_ : Cond.selects "YawnRoute$LawReader" ⟨"YawnRoute$LawReader", "readChoice", "(I)V"⟩ ⟨"YawnRoute$LawReader", "readChoice", "(I)V"⟩ ∈ lw_gd := mem_gd rrp_17.1 rfl
def rrp_18 := List.forall_mem_cons.mp rrp_17.2
theorem lp18_ : Cond.selects "YawnRoute$NetReader" ⟨"YawnRoute$NetReader", "readPasses", "()V"⟩ ⟨"YawnRoute$NetReader", "readPasses", "()V"⟩ ∈ lw_gd := mem_gd rrp_18.1 rfl
def rrp_19 := List.forall_mem_cons.mp rrp_18.2
theorem lp19_ : Cond.selects "YawnRoute" ⟨"YawnRoute", "takeOver", "(LYawnRoute$Net;LYawnRoute$State;)V"⟩ ⟨"YawnRoute", "takeOver", "(LYawnRoute$Net;LYawnRoute$State;)V"⟩ ∈ lw_gd := mem_gd rrp_19.1 rfl
def rrp_20 := List.forall_mem_cons.mp rrp_19.2
theorem lp20_ : Cond.selects "YawnRoute$Net" ⟨"YawnRoute$Net", "valueOf", "(II)I"⟩ ⟨"YawnRoute$Net", "valueOf", "(II)I"⟩ ∈ lw_gd := mem_gd rrp_20.1 rfl
def rrp_21 := List.forall_mem_cons.mp rrp_20.2
theorem lp21_ : Cond.selects "YawnRoute" ⟨"YawnRoute", "answered", "(II)I"⟩ ⟨"YawnRoute", "answered", "(II)I"⟩ ∈ lw_gd := mem_gd rrp_21.1 rfl
def rrp_22 := List.forall_mem_cons.mp rrp_21.2
theorem lp22_ : Cond.selects "YawnRoute$Deeds" ⟨"YawnRoute$Deeds", "tryDeed", "(LYawnRoute$State;J)I"⟩ ⟨"YawnRoute$Deeds", "tryDeed", "(LYawnRoute$State;J)I"⟩ ∈ lw_gd := mem_gd rrp_22.1 rfl
def rrp_23 := List.forall_mem_cons.mp rrp_22.2
theorem lp23_ : Cond.selects "YawnRoute$Deeds" ⟨"YawnRoute$Deeds", "tryDrawn", "()I"⟩ ⟨"YawnRoute$Deeds", "tryDrawn", "()I"⟩ ∈ lw_gd := mem_gd rrp_23.1 rfl
def rrp_24 := List.forall_mem_cons.mp rrp_23.2
theorem lp24_ : Cond.selects "YawnRoute$Deeds" ⟨"YawnRoute$Deeds", "draw", "()I"⟩ ⟨"YawnRoute$Deeds", "draw", "()I"⟩ ∈ lw_gd := mem_gd rrp_24.1 rfl
def rrp_25 := List.forall_mem_cons.mp rrp_24.2
theorem lp25_ : Cond.selects "YawnRoute" ⟨"YawnRoute", "refusal", "(ZZ)I"⟩ ⟨"YawnRoute", "refusal", "(ZZ)I"⟩ ∈ lw_gd := mem_gd rrp_25.1 rfl
def rrp_26 := List.forall_mem_cons.mp rrp_25.2
theorem lp26_ : Cond.selects "YawnRoute$Passings" ⟨"YawnRoute$Passings", "refresh", "()V"⟩ ⟨"YawnRoute$Passings", "refresh", "()V"⟩ ∈ lw_gd := mem_gd rrp_26.1 rfl
def rrp_27 := List.forall_mem_cons.mp rrp_26.2
theorem lp27_ : Cond.selects "YawnRoute$Passings" ⟨"YawnRoute$Passings", "find", "(I)V"⟩ ⟨"YawnRoute$Passings", "find", "(I)V"⟩ ∈ lw_gd := mem_gd rrp_27.1 rfl
def rrp_28 := List.forall_mem_cons.mp rrp_27.2
theorem lp28_ : Cond.selects "YawnRoute$Passings" ⟨"YawnRoute$Passings", "workOut", "(II)I"⟩ ⟨"YawnRoute$Passings", "workOut", "(II)I"⟩ ∈ lw_gd := mem_gd rrp_28.1 rfl
def rrp_29 := List.forall_mem_cons.mp rrp_28.2
theorem lp29_ : Cond.selects "YawnRoute$Routes" ⟨"YawnRoute$Routes", "improve", "()Z"⟩ ⟨"YawnRoute$Routes", "improve", "()Z"⟩ ∈ lw_gd := mem_gd rrp_29.1 rfl
def rrp_30 := List.forall_mem_cons.mp rrp_29.2
theorem lp30_ : Cond.selects "YawnRoute$Routes" ⟨"YawnRoute$Routes", "costOver", "(II)I"⟩ ⟨"YawnRoute$Routes", "costOver", "(II)I"⟩ ∈ lw_gd := mem_gd rrp_30.1 rfl
def rrp_31 := List.forall_mem_cons.mp rrp_30.2
theorem lp31_ : Cond.selects "YawnRoute$Routes" ⟨"YawnRoute$Routes", "costOf", "(I)I"⟩ ⟨"YawnRoute$Routes", "costOf", "(I)I"⟩ ∈ lw_gd := mem_gd rrp_31.1 rfl
def rrp_32 := List.forall_mem_cons.mp rrp_31.2
theorem lp32_ : Cond.selects "YawnRoute" ⟨"YawnRoute", "routeBy", "(IIIZ)I"⟩ ⟨"YawnRoute", "routeBy", "(IIIZ)I"⟩ ∈ lw_gd := mem_gd rrp_32.1 rfl
def rrp_33 := List.forall_mem_cons.mp rrp_32.2
theorem lp33_ : Cond.selects "YawnRoute$Routes" ⟨"YawnRoute$Routes", "bestFrom", "(I)I"⟩ ⟨"YawnRoute$Routes", "bestFrom", "(I)I"⟩ ∈ lw_gd := mem_gd rrp_33.1 rfl
def rrp_34 := List.forall_mem_cons.mp rrp_33.2
theorem lp34_ : Cond.selects "YawnRoute$Routes" ⟨"YawnRoute$Routes", "comesTo", "(II)Z"⟩ ⟨"YawnRoute$Routes", "comesTo", "(II)Z"⟩ ∈ lw_gd := mem_gd rrp_34.1 rfl
def rrp_35 := List.forall_mem_cons.mp rrp_34.2
theorem lp35_ : Cond.selects "YawnRoute$Routes" ⟨"YawnRoute$Routes", "canSleep", "(II)Z"⟩ ⟨"YawnRoute$Routes", "canSleep", "(II)Z"⟩ ∈ lw_gd := mem_gd rrp_35.1 rfl
def rrp_36 := List.forall_mem_cons.mp rrp_35.2
theorem lp36_ : Cond.selects "YawnRoute$Spreading" ⟨"YawnRoute$Spreading", "runWith", "(II)I"⟩ ⟨"YawnRoute$Spreading", "runWith", "(II)I"⟩ ∈ lw_gd := mem_gd rrp_36.1 rfl
def rrp_37 := List.forall_mem_cons.mp rrp_36.2
theorem lp37_ : Cond.selects "YawnRoute$Spreading" ⟨"YawnRoute$Spreading", "goesOn", "([II)Z"⟩ ⟨"YawnRoute$Spreading", "goesOn", "([II)Z"⟩ ∈ lw_gd := mem_gd rrp_37.1 rfl
def rrp_38 := List.forall_mem_cons.mp rrp_37.2
theorem lp38_ : Cond.selects "YawnRoute$Spreading" ⟨"YawnRoute$Spreading", "isMet", "()Z"⟩ ⟨"YawnRoute$Spreading", "isMet", "()Z"⟩ ∈ lw_gd := mem_gd rrp_38.1 rfl
def rrp_39 := List.forall_mem_cons.mp rrp_38.2
theorem lp39_ : Cond.selects "YawnRoute$Steps" ⟨"YawnRoute$Steps", "countFrom", "(II)V"⟩ ⟨"YawnRoute$Steps", "countFrom", "(II)V"⟩ ∈ lw_gd := mem_gd rrp_39.1 rfl
def rrp_40 := List.forall_mem_cons.mp rrp_39.2
theorem lp40_ : Cond.selects "YawnRoute$Steps" ⟨"YawnRoute$Steps", "routesFrom", "(II)I"⟩ ⟨"YawnRoute$Steps", "routesFrom", "(II)I"⟩ ∈ lw_gd := mem_gd rrp_40.1 rfl
def rrp_41 := List.forall_mem_cons.mp rrp_40.2
theorem lp41_ : Cond.selects "YawnRoute$Steps" ⟨"YawnRoute$Steps", "firstBack", "(II)I"⟩ ⟨"YawnRoute$Steps", "firstBack", "(II)I"⟩ ∈ lw_gd := mem_gd rrp_41.1 rfl
def rrp_42 := List.forall_mem_cons.mp rrp_41.2
theorem lp42_ : Cond.selects "YawnRoute" ⟨"YawnRoute", "refusalTold", "(III)I"⟩ ⟨"YawnRoute", "refusalTold", "(III)I"⟩ ∈ lw_gd := mem_gd rrp_42.1 rfl
def rrp_43 := List.forall_mem_cons.mp rrp_42.2
theorem lp43_ : Cond.selects "YawnRoute$Deeds" ⟨"YawnRoute$Deeds", "sizeTold", "(III)I"⟩ ⟨"YawnRoute$Deeds", "sizeTold", "(III)I"⟩ ∈ lw_gd := mem_gd rrp_43.1 rfl
def rrp_44 := List.forall_mem_cons.mp rrp_43.2
theorem lp44_ : Cond.selects "YawnRoute$Deeds" ⟨"YawnRoute$Deeds", "mostAlike", "(IIII)I"⟩ ⟨"YawnRoute$Deeds", "mostAlike", "(IIII)I"⟩ ∈ lw_gd := mem_gd rrp_44.1 rfl
def rrp_45 := List.forall_mem_cons.mp rrp_44.2
theorem lp45_ : Cond.selects "YawnRoute$Steps" ⟨"YawnRoute$Steps", "drawFrom", "(I[I[I)V"⟩ ⟨"YawnRoute$Steps", "drawFrom", "(I[I[I)V"⟩ ∈ lw_gd := mem_gd rrp_45.1 rfl
def rrp_46 := List.forall_mem_cons.mp rrp_45.2
theorem lp46_ : Cond.selects "YawnRouteModel" ⟨"YawnRouteModel", "next", "()V"⟩ ⟨"YawnRouteModel", "next", "()V"⟩ ∈ lw_gd := mem_gd rrp_46.1 rfl
def rrp_47 := List.forall_mem_cons.mp rrp_46.2
theorem lp47_ : Cond.selects "YawnRouteModel" ⟨"YawnRouteModel", "see", "(I)I"⟩ ⟨"YawnRouteModel", "see", "(I)I"⟩ ∈ lw_gd := mem_gd rrp_47.1 rfl
def rrp_48 := List.forall_mem_cons.mp rrp_47.2
theorem lp48_ : Cond.selects "YawnRouteModel" ⟨"YawnRouteModel", "keyAt", "()I"⟩ ⟨"YawnRouteModel", "keyAt", "()I"⟩ ∈ lw_gd := mem_gd rrp_48.1 rfl
def rrp_49 := List.forall_mem_cons.mp rrp_48.2
theorem lp49_ : Cond.selects "YawnRouteModel" ⟨"YawnRouteModel", "eats", "(I)Z"⟩ ⟨"YawnRouteModel", "eats", "(I)Z"⟩ ∈ lw_gd := mem_gd rrp_49.1 rfl
def rrp_50 := List.forall_mem_cons.mp rrp_49.2
theorem lp50_ : Cond.selects "YawnRouteModel" ⟨"YawnRouteModel", "is", "(I)Z"⟩ ⟨"YawnRouteModel", "is", "(I)Z"⟩ ∈ lw_gd := mem_gd rrp_50.1 rfl
def rrp_51 := List.forall_mem_cons.mp rrp_50.2
theorem lp51_ : Cond.selects "YawnRouteModel" ⟨"YawnRouteModel", "fails", "(I)V"⟩ ⟨"YawnRouteModel", "fails", "(I)V"⟩ ∈ lw_gd := mem_gd rrp_51.1 rfl
def rrp_52 := List.forall_mem_cons.mp rrp_51.2
theorem lp52_ : Cond.selects "YawnRouteModel" ⟨"YawnRouteModel", "ends", "()V"⟩ ⟨"YawnRouteModel", "ends", "()V"⟩ ∈ lw_gd := mem_gd rrp_52.1 rfl
def rrp_53 := List.forall_mem_cons.mp rrp_52.2
theorem lp53_ : Cond.selects "YawnRouteModel" ⟨"YawnRouteModel", "readLine", "()V"⟩ ⟨"YawnRouteModel", "readLine", "()V"⟩ ∈ lw_gd := mem_gd rrp_53.1 rfl
def rrp_54 := List.forall_mem_cons.mp rrp_53.2
theorem lp54_ : Cond.selects "YawnRouteModel" ⟨"YawnRouteModel", "readStation", "()V"⟩ ⟨"YawnRouteModel", "readStation", "()V"⟩ ∈ lw_gd := mem_gd rrp_54.1 rfl
def rrp_55 := List.forall_mem_cons.mp rrp_54.2
theorem lp55_ : Cond.selects "YawnRouteModel" ⟨"YawnRouteModel", "readFlag", "(I)Z"⟩ ⟨"YawnRouteModel", "readFlag", "(I)Z"⟩ ∈ lw_gd := mem_gd rrp_55.1 rfl
def rrp_56 := List.forall_mem_cons.mp rrp_55.2
theorem lp56_ : Cond.selects "YawnRouteModel" ⟨"YawnRouteModel", "takes", "(II)I"⟩ ⟨"YawnRouteModel", "takes", "(II)I"⟩ ∈ lw_gd := mem_gd rrp_56.1 rfl
def rrp_57 := List.forall_mem_cons.mp rrp_56.2
theorem lp57_ : Cond.selects "YawnRouteModel" ⟨"YawnRouteModel", "readWay", "()V"⟩ ⟨"YawnRouteModel", "readWay", "()V"⟩ ∈ lw_gd := mem_gd rrp_57.1 rfl
def rrp_58 := List.forall_mem_cons.mp rrp_57.2
theorem lp58_ : Cond.selects "YawnRouteModel" ⟨"YawnRouteModel", "readAt", "()V"⟩ ⟨"YawnRouteModel", "readAt", "()V"⟩ ∈ lw_gd := mem_gd rrp_58.1 rfl
def rrp_59 := List.forall_mem_cons.mp rrp_58.2
theorem lp59_ : Cond.selects "YawnRouteModel" ⟨"YawnRouteModel", "readLaw", "(I)V"⟩ ⟨"YawnRouteModel", "readLaw", "(I)V"⟩ ∈ lw_gd := mem_gd rrp_59.1 rfl
def rrp_60 := List.forall_mem_cons.mp rrp_59.2
theorem lp60_ : Cond.selects "YawnRouteModel" ⟨"YawnRouteModel", "readSum", "(I)V"⟩ ⟨"YawnRouteModel", "readSum", "(I)V"⟩ ∈ lw_gd := mem_gd rrp_60.1 rfl
def rrp_61 := List.forall_mem_cons.mp rrp_60.2
theorem lp61_ : Cond.selects "YawnRouteModel" ⟨"YawnRouteModel", "readTerm", "(I)V"⟩ ⟨"YawnRouteModel", "readTerm", "(I)V"⟩ ∈ lw_gd := mem_gd rrp_61.1 rfl
def rrp_62 := List.forall_mem_cons.mp rrp_61.2
theorem lp62_ : Cond.selects "YawnRouteModel" ⟨"YawnRouteModel", "readAtom", "(I)V"⟩ ⟨"YawnRouteModel", "readAtom", "(I)V"⟩ ∈ lw_gd := mem_gd rrp_62.1 rfl
def rrp_63 := List.forall_mem_cons.mp rrp_62.2
theorem lp63_ : Cond.selects "YawnRouteModel" ⟨"YawnRouteModel", "codes", "(I)V"⟩ ⟨"YawnRouteModel", "codes", "(I)V"⟩ ∈ lw_gd := mem_gd rrp_63.1 rfl
def rrp_64 := List.forall_mem_cons.mp rrp_63.2
theorem lp64_ : Cond.selects "YawnRouteModel" ⟨"YawnRouteModel", "wordOf", "(I)I"⟩ ⟨"YawnRouteModel", "wordOf", "(I)I"⟩ ∈ lw_gd := mem_gd rrp_64.1 rfl
def rrp_65 := List.forall_mem_cons.mp rrp_64.2
theorem lp65_ : Cond.selects "YawnRouteModel" ⟨"YawnRouteModel", "goesIn", "(I)Z"⟩ ⟨"YawnRouteModel", "goesIn", "(I)Z"⟩ ∈ lw_gd := mem_gd rrp_65.1 rfl
def rrp_66 := List.forall_mem_cons.mp rrp_65.2
theorem lp66_ : Cond.selects "YawnRouteModel" ⟨"YawnRouteModel", "readIf", "(I)V"⟩ ⟨"YawnRouteModel", "readIf", "(I)V"⟩ ∈ lw_gd := mem_gd rrp_66.1 rfl
def rrp_67 := List.forall_mem_cons.mp rrp_66.2
theorem lp67_ : Cond.selects "YawnRouteModel" ⟨"YawnRouteModel", "readTruth", "(I)V"⟩ ⟨"YawnRouteModel", "readTruth", "(I)V"⟩ ∈ lw_gd := mem_gd rrp_67.1 rfl
def rrp_68 := List.forall_mem_cons.mp rrp_67.2
theorem lp68_ : Cond.selects "YawnRouteModel" ⟨"YawnRouteModel", "readBoth", "(I)V"⟩ ⟨"YawnRouteModel", "readBoth", "(I)V"⟩ ∈ lw_gd := mem_gd rrp_68.1 rfl
def rrp_69 := List.forall_mem_cons.mp rrp_68.2
theorem lp69_ : Cond.selects "YawnRouteModel" ⟨"YawnRouteModel", "readUnit", "(I)V"⟩ ⟨"YawnRouteModel", "readUnit", "(I)V"⟩ ∈ lw_gd := mem_gd rrp_69.1 rfl
def rrp_70 := List.forall_mem_cons.mp rrp_69.2
theorem lp70_ : Cond.selects "YawnRouteModel" ⟨"YawnRouteModel", "isStation", "(J)Z"⟩ ⟨"YawnRouteModel", "isStation", "(J)Z"⟩ ∈ lw_gd := mem_gd rrp_70.1 rfl
def rrp_71 := List.forall_mem_cons.mp rrp_70.2
theorem lp71_ : Cond.selects "YawnRouteModel" ⟨"YawnRouteModel", "hoursOf", "(II)I"⟩ ⟨"YawnRouteModel", "hoursOf", "(II)I"⟩ ∈ lw_gd := mem_gd rrp_71.1 rfl
def rrp_72 := List.forall_mem_cons.mp rrp_71.2
theorem lp72_ : Cond.selects "YawnRouteModel" ⟨"YawnRouteModel", "whyPass", "(J)I"⟩ ⟨"YawnRouteModel", "whyPass", "(J)I"⟩ ∈ lw_gd := mem_gd rrp_72.1 rfl
def rrp_73 := List.forall_mem_cons.mp rrp_72.2
theorem lp73_ : Cond.selects "YawnRouteModel" ⟨"YawnRouteModel", "whyBy", "(IIII)I"⟩ ⟨"YawnRouteModel", "whyBy", "(IIII)I"⟩ ∈ lw_gd := mem_gd rrp_73.1 rfl
def rrp_74 := List.forall_mem_cons.mp rrp_73.2
theorem lp74_ : Cond.selects "YawnRouteModel" ⟨"YawnRouteModel", "reckons", "(IIII)I"⟩ ⟨"YawnRouteModel", "reckons", "(IIII)I"⟩ ∈ lw_gd := mem_gd rrp_74.1 rfl
def rrp_75 := List.forall_mem_cons.mp rrp_74.2
theorem lp75_ : Cond.selects "YawnRouteModel" ⟨"YawnRouteModel", "passedTo", "(III)I"⟩ ⟨"YawnRouteModel", "passedTo", "(III)I"⟩ ∈ lw_gd := mem_gd rrp_75.1 rfl
def rrp_76 := List.forall_mem_cons.mp rrp_75.2
theorem lp76_ : Cond.selects "YawnRouteModel" ⟨"YawnRouteModel", "keeps", "()V"⟩ ⟨"YawnRouteModel", "keeps", "()V"⟩ ∈ lw_gd := mem_gd rrp_76.1 rfl
def rrp_77 := List.forall_mem_cons.mp rrp_76.2
theorem lp77_ : Cond.selects "YawnRouteModel" ⟨"YawnRouteModel", "goes", "(I)V"⟩ ⟨"YawnRouteModel", "goes", "(I)V"⟩ ∈ lw_gd := mem_gd rrp_77.1 rfl
def rrp_78 := List.forall_mem_cons.mp rrp_77.2
theorem lp78_ : Cond.selects "YawnRouteModel" ⟨"YawnRouteModel", "notes", "()V"⟩ ⟨"YawnRouteModel", "notes", "()V"⟩ ∈ lw_gd := mem_gd rrp_78.1 rfl
def rrp_79 := List.forall_mem_cons.mp rrp_78.2
theorem lp79_ : Cond.selects "YawnRouteModel" ⟨"YawnRouteModel", "letsOff", "(II)V"⟩ ⟨"YawnRouteModel", "letsOff", "(II)V"⟩ ∈ lw_gd := mem_gd rrp_79.1 rfl
def rrp_80 := List.forall_mem_cons.mp rrp_79.2
theorem lp80_ : Cond.selects "YawnRouteModel" ⟨"YawnRouteModel", "noTray", "(I)I"⟩ ⟨"YawnRouteModel", "noTray", "(I)I"⟩ ∈ lw_gd := mem_gd rrp_80.1 rfl
def rrp_81 := List.forall_mem_cons.mp rrp_80.2
theorem lp81_ : Cond.selects "YawnRouteModel" ⟨"YawnRouteModel", "tells", "(I)I"⟩ ⟨"YawnRouteModel", "tells", "(I)I"⟩ ∈ lw_gd := mem_gd rrp_81.1 rfl
def rrp_82 := List.forall_mem_cons.mp rrp_81.2
theorem lp82_ : Cond.selects "YawnRouteModel" ⟨"YawnRouteModel", "whyNot", "(J)I"⟩ ⟨"YawnRouteModel", "whyNot", "(J)I"⟩ ∈ lw_gd := mem_gd rrp_82.1 rfl
def rrp_83 := List.forall_mem_cons.mp rrp_82.2
theorem lp83_ : Cond.selects "YawnRouteModel" ⟨"YawnRouteModel", "does", "(I)V"⟩ ⟨"YawnRouteModel", "does", "(I)V"⟩ ∈ lw_gd := mem_gd rrp_83.1 rfl
def rrp_84 := List.forall_mem_cons.mp rrp_83.2
theorem lp84_ : Cond.selects "YawnRouteModel" ⟨"YawnRouteModel", "isAgain", "()V"⟩ ⟨"YawnRouteModel", "isAgain", "()V"⟩ ∈ lw_gd := mem_gd rrp_84.1 rfl
def rrp_85 := List.forall_mem_cons.mp rrp_84.2
theorem lp85_ : Cond.selects "YawnRouteModel" ⟨"YawnRouteModel", "drawn", "()I"⟩ ⟨"YawnRouteModel", "drawn", "()I"⟩ ∈ lw_gd := mem_gd rrp_85.1 rfl
def rrp_86 := List.forall_mem_cons.mp rrp_85.2
theorem lp86_ : Cond.selects "YawnRouteModel" ⟨"YawnRouteModel", "draw", "(I)I"⟩ ⟨"YawnRouteModel", "draw", "(I)I"⟩ ∈ lw_gd := mem_gd rrp_86.1 rfl
def rrp_87 := List.forall_mem_cons.mp rrp_86.2
theorem lp87_ : Cond.selects "YawnRouteModel" ⟨"YawnRouteModel", "comes", "(IIZ)I"⟩ ⟨"YawnRouteModel", "comes", "(IIZ)I"⟩ ∈ lw_gd := mem_gd rrp_87.1 rfl
def rrp_88 := List.forall_mem_cons.mp rrp_87.2
theorem lp88_ : Cond.selects "YawnRouteModel" ⟨"YawnRouteModel", "noComing", "(II)I"⟩ ⟨"YawnRouteModel", "noComing", "(II)I"⟩ ∈ lw_gd := mem_gd rrp_88.1 rfl
def rrp_89 := List.forall_mem_cons.mp rrp_88.2
theorem lp89_ : Cond.selects "YawnRouteModel" ⟨"YawnRouteModel", "laysFar", "(IIZ)I"⟩ ⟨"YawnRouteModel", "laysFar", "(IIZ)I"⟩ ∈ lw_gd := mem_gd rrp_89.1 rfl
def rrp_90 := List.forall_mem_cons.mp rrp_89.2
theorem lp90_ : Cond.selects "YawnRouteModel" ⟨"YawnRouteModel", "laysThen", "(I)V"⟩ ⟨"YawnRouteModel", "laysThen", "(I)V"⟩ ∈ lw_gd := mem_gd rrp_90.1 rfl
def rrp_91 := List.forall_mem_cons.mp rrp_90.2
theorem lp91_ : Cond.selects "YawnRouteModel" ⟨"YawnRouteModel", "farBy", "(IIZ)I"⟩ ⟨"YawnRouteModel", "farBy", "(IIZ)I"⟩ ∈ lw_gd := mem_gd rrp_91.1 rfl
def rrp_92 := List.forall_mem_cons.mp rrp_91.2
theorem lp92_ : Cond.selects "YawnRouteModel" ⟨"YawnRouteModel", "routed", "(II)I"⟩ ⟨"YawnRouteModel", "routed", "(II)I"⟩ ∈ lw_gd := mem_gd rrp_92.1 rfl
def rrp_93 := List.forall_mem_cons.mp rrp_92.2
theorem lp93_ : Cond.selects "YawnRouteModel" ⟨"YawnRouteModel", "countOf", "(IIZ)I"⟩ ⟨"YawnRouteModel", "countOf", "(IIZ)I"⟩ ∈ lw_gd := mem_gd rrp_93.1 rfl
def rrp_94 := List.forall_mem_cons.mp rrp_93.2
theorem lp94_ : Cond.selects "YawnRouteModel" ⟨"YawnRouteModel", "standNow", "()I"⟩ ⟨"YawnRouteModel", "standNow", "()I"⟩ ∈ lw_gd := mem_gd rrp_94.1 rfl
def rrp_95 := List.forall_mem_cons.mp rrp_94.2
theorem lp95_ : Cond.selects "YawnRouteModel" ⟨"YawnRouteModel", "comesBy", "(IIIZ)I"⟩ ⟨"YawnRouteModel", "comesBy", "(IIIZ)I"⟩ ∈ lw_gd := mem_gd rrp_95.1 rfl
def rrp_96 := List.forall_mem_cons.mp rrp_95.2
theorem lp96_ : Cond.selects "YawnRouteModel" ⟨"YawnRouteModel", "stationAt", "(IZ)I"⟩ ⟨"YawnRouteModel", "stationAt", "(IZ)I"⟩ ∈ lw_gd := mem_gd rrp_96.1 rfl
def rrp_97 := List.forall_mem_cons.mp rrp_96.2
theorem lp97_ : Cond.selects "YawnRouteModel" ⟨"YawnRouteModel", "laysReached", "()V"⟩ ⟨"YawnRouteModel", "laysReached", "()V"⟩ ∈ lw_gd := mem_gd rrp_97.1 rfl
def rrp_98 := List.forall_mem_cons.mp rrp_97.2
theorem lp98_ : Cond.selects "YawnRouteModel" ⟨"YawnRouteModel", "reachBy", "(I)I"⟩ ⟨"YawnRouteModel", "reachBy", "(I)I"⟩ ∈ lw_gd := mem_gd rrp_98.1 rfl
def rrp_99 := List.forall_mem_cons.mp rrp_98.2
theorem lp99_ : Cond.selects "YawnRouteModel" ⟨"YawnRouteModel", "begins", "()V"⟩ ⟨"YawnRouteModel", "begins", "()V"⟩ ∈ lw_gd := mem_gd rrp_99.1 rfl
def rrp_100 := List.forall_mem_cons.mp rrp_99.2
theorem lp100_ : Cond.selects "YawnRouteModel" ⟨"YawnRouteModel", "spreads", "([II)Z"⟩ ⟨"YawnRouteModel", "spreads", "([II)Z"⟩ ∈ lw_gd := mem_gd rrp_100.1 rfl
def rrp_101 := List.forall_mem_cons.mp rrp_100.2
theorem lp101_ : Cond.selects "YawnRouteModel" ⟨"YawnRouteModel", "crowdBy", "(I)I"⟩ ⟨"YawnRouteModel", "crowdBy", "(I)I"⟩ ∈ lw_gd := mem_gd rrp_101.1 rfl
def rrp_102 := List.forall_mem_cons.mp rrp_101.2
theorem lp102_ : Cond.selects "YawnRouteModel" ⟨"YawnRouteModel", "haveBoth", "()Z"⟩ ⟨"YawnRouteModel", "haveBoth", "()Z"⟩ ∈ lw_gd := mem_gd rrp_102.1 rfl
def rrp_103 := List.forall_mem_cons.mp rrp_102.2
theorem lp103_ : Cond.selects "YawnRouteModel" ⟨"YawnRouteModel", "noBack", "(III)I"⟩ ⟨"YawnRouteModel", "noBack", "(III)I"⟩ ∈ lw_gd := mem_gd rrp_103.1 rfl
def rrp_104 := List.forall_mem_cons.mp rrp_103.2
theorem lp104_ : Cond.selects "YawnRouteModel" ⟨"YawnRouteModel", "laysBack", "(IIII)J"⟩ ⟨"YawnRouteModel", "laysBack", "(IIII)J"⟩ ∈ lw_gd := mem_gd rrp_104.1 rfl
def rrp_105 := List.forall_mem_cons.mp rrp_104.2
theorem lp105_ : Cond.selects "YawnRouteModel" ⟨"YawnRouteModel", "noDulls", "(III)I"⟩ ⟨"YawnRouteModel", "noDulls", "(III)I"⟩ ∈ lw_gd := mem_gd rrp_105.1 rfl
def rrp_106 := List.forall_mem_cons.mp rrp_105.2
theorem lp106_ : Cond.selects "YawnRouteModel" ⟨"YawnRouteModel", "dullsOf", "(III)I"⟩ ⟨"YawnRouteModel", "dullsOf", "(III)I"⟩ ∈ lw_gd := mem_gd rrp_106.1 rfl
def rrp_107 := List.forall_mem_cons.mp rrp_106.2
theorem lp107_ : Cond.selects "YawnRouteModel" ⟨"YawnRouteModel", "toldSize", "(I)I"⟩ ⟨"YawnRouteModel", "toldSize", "(I)I"⟩ ∈ lw_gd := mem_gd rrp_107.1 rfl
def rrp_108 := List.forall_mem_cons.mp rrp_107.2
theorem lp108_ : Cond.selects "YawnRouteModel" ⟨"YawnRouteModel", "mostOften", "(IIII)I"⟩ ⟨"YawnRouteModel", "mostOften", "(IIII)I"⟩ ∈ lw_gd := mem_gd rrp_108.1 rfl
def rrp_109 := List.forall_mem_cons.mp rrp_108.2
theorem lp109_ : Cond.selects "YawnRouteModel" ⟨"YawnRouteModel", "forcedIn", "(I)I"⟩ ⟨"YawnRouteModel", "forcedIn", "(I)I"⟩ ∈ lw_gd := mem_gd rrp_109.1 rfl
def rrp_110 := List.forall_mem_cons.mp rrp_109.2
theorem lp110_ : Cond.selects "YawnRouteModel" ⟨"YawnRouteModel", "forcesFrom", "(IIIII)Z"⟩ ⟨"YawnRouteModel", "forcesFrom", "(IIIII)Z"⟩ ∈ lw_gd := mem_gd rrp_110.1 rfl
def rrp_111 := List.forall_mem_cons.mp rrp_110.2
theorem lp111_ : Cond.selects "YawnRouteModel" ⟨"YawnRouteModel", "childCant", "(IIIII)Z"⟩ ⟨"YawnRouteModel", "childCant", "(IIIII)Z"⟩ ∈ lw_gd := mem_gd rrp_111.1 rfl
def rrp_112 := List.forall_mem_cons.mp rrp_111.2
theorem lp112_ : Cond.selects "YawnRouteModel" ⟨"YawnRouteModel", "forcesTo", "(IIIIII)Z"⟩ ⟨"YawnRouteModel", "forcesTo", "(IIIIII)Z"⟩ ∈ lw_gd := mem_gd rrp_112.1 rfl
def rrp_113 := List.forall_mem_cons.mp rrp_112.2
theorem lp113_ : Cond.selects "YawnRouteModel" ⟨"YawnRouteModel", "laysLikely", "(I)V"⟩ ⟨"YawnRouteModel", "laysLikely", "(I)V"⟩ ∈ lw_gd := mem_gd rrp_113.1 rfl
def rrp_114 := List.forall_mem_cons.mp rrp_113.2
theorem lp114_ : Cond.selects "YawnRouteModel" ⟨"YawnRouteModel", "drawsLot", "()V"⟩ ⟨"YawnRouteModel", "drawsLot", "()V"⟩ ∈ lw_gd := mem_gd rrp_114.1 rfl
def rrp_115 := List.forall_mem_cons.mp rrp_114.2
theorem lp115_ : Cond.selects "YawnRouteModel" ⟨"YawnRouteModel", "likelyAt", "(I)J"⟩ ⟨"YawnRouteModel", "likelyAt", "(I)J"⟩ ∈ lw_gd := mem_gd rrp_115.1 rfl
def rrp_116 := List.forall_mem_cons.mp rrp_115.2
theorem lp116_ : Cond.selects "YawnRouteModel" ⟨"YawnRouteModel", "waysAll", "()I"⟩ ⟨"YawnRouteModel", "waysAll", "()I"⟩ ∈ lw_gd := mem_gd rrp_116.1 rfl
theorem tq0 : ∀ w ∈ tables_1_1, w ∈ lw_tbl := fun w h => List.mem_append_right _ (List.mem_append_left _ h)
def rr0 := List.forall_mem_cons.mp tq0
theorem lk0 : (Jvm.Cond.initialized "YawnRouteLaw") ∈ lw_gd := mem_gd rr0.1 rfl
def rr1 := List.forall_mem_cons.mp rr0.2
theorem lk1 : (Jvm.Cond.initialized "YawnRoute") ∈ lw_gd := mem_gd rr1.1 rfl
def rr2 := List.forall_mem_cons.mp rr1.2
theorem lk2 : (Jvm.Cond.initialized "YawnRoute$Tape") ∈ lw_gd := mem_gd rr2.1 rfl
def rr3 := List.forall_mem_cons.mp rr2.2
theorem lk3 : (Jvm.Cond.initialized "YawnRoute$NetReader") ∈ lw_gd := mem_gd rr3.1 rfl
def rr4 := List.forall_mem_cons.mp rr3.2
theorem lk4 : (Jvm.Cond.initialized "YawnRoute$Net") ∈ lw_gd := mem_gd rr4.1 rfl
def rr5 := List.forall_mem_cons.mp rr4.2
theorem lk5 : (Jvm.Cond.initialized "YawnRoute$State") ∈ lw_gd := mem_gd rr5.1 rfl
def rr6 := List.forall_mem_cons.mp rr5.2
theorem lk6 : (Jvm.Cond.initialized "YawnRoute$LawReader") ∈ lw_gd := mem_gd rr6.1 rfl
def rr7 := List.forall_mem_cons.mp rr6.2
theorem lk7 : (Jvm.Cond.initialized "YawnRoute$Trays") ∈ lw_gd := mem_gd rr7.1 rfl
def rr8 := List.forall_mem_cons.mp rr7.2
theorem lk8 : (Jvm.Cond.initialized "YawnRoute$Deeds") ∈ lw_gd := mem_gd rr8.1 rfl
def rr9 := List.forall_mem_cons.mp rr8.2
theorem lk9 : (Jvm.Cond.initialized "YawnRoute$Passings") ∈ lw_gd := mem_gd rr9.1 rfl
def rr10 := List.forall_mem_cons.mp rr9.2
theorem lk10 : (Jvm.Cond.initialized "java/util/Arrays") ∈ lw_gd := mem_gd rr10.1 rfl
def rr11 := List.forall_mem_cons.mp rr10.2
theorem lk11 : (Jvm.Cond.initialized "YawnRoute$Routes") ∈ lw_gd := mem_gd rr11.1 rfl
def rr12 := List.forall_mem_cons.mp rr11.2
theorem lk12 : (Jvm.Cond.initialized "YawnRoute$Spreading") ∈ lw_gd := mem_gd rr12.1 rfl
def rr13 := List.forall_mem_cons.mp rr12.2
theorem lk13 : (Jvm.Cond.initialized "YawnRoute$Steps") ∈ lw_gd := mem_gd rr13.1 rfl
def rr14 := List.forall_mem_cons.mp rr13.2
theorem lk14 : (Jvm.Cond.initialized "YawnRouteModel") ∈ lw_gd := mem_gd rr14.1 rfl
def rr15 := List.forall_mem_cons.mp rr14.2
theorem lk15 : (Jvm.Cond.initialized "java/lang/Math") ∈ lw_gd := mem_gd rr15.1 rfl
def rr16 := List.forall_mem_cons.mp rr15.2
theorem lk16 : (Jvm.Cond.initialized "java/lang/String") ∈ lw_gd := mem_gd rr16.1 rfl
def rr17 := List.forall_mem_cons.mp rr16.2
theorem lk17 : (Jvm.Cond.initialized "java/lang/StringLatin1") ∈ lw_gd := mem_gd rr17.1 rfl
def rr18 := List.forall_mem_cons.mp rr17.2
theorem lk18 : (Jvm.Cond.initialized "jdk/internal/util/Preconditions") ∈ lw_gd := mem_gd rr18.1 rfl
def rr19 := List.forall_mem_cons.mp rr18.2
theorem lk19 : (Jvm.Cond.initialized "java/lang/StringUTF16") ∈ lw_gd := mem_gd rr19.1 rfl
def rr20 := List.forall_mem_cons.mp rr19.2
theorem lk20 : (Jvm.Cond.initialized "java/lang/Character") ∈ lw_gd := mem_gd rr20.1 rfl
def rr21 := List.forall_mem_cons.mp rr20.2
theorem lk21 : (Jvm.Cond.initialized "java/lang/System") ∈ lw_gd := mem_gd rr21.1 rfl
def rr22 := List.forall_mem_cons.mp rr21.2
theorem lk22 : (Jvm.Cond.initialized "java/lang/Integer") ∈ lw_gd := mem_gd rr22.1 rfl
def rr23 := List.forall_mem_cons.mp rr22.2
theorem lk23 : (Jvm.Cond.classLink "YawnRouteLaw" (7 : Nat) "YawnRoute") ∈ lw_gd := mem_gd rr23.1 rfl
def rr24 := List.forall_mem_cons.mp rr23.2
theorem lk24 : (Jvm.Cond.instantiable "YawnRoute" (13 : Nat)) ∈ lw_gd := mem_gd rr24.1 rfl
def rr25 := List.forall_mem_cons.mp rr24.2
theorem lk25 : (Jvm.Cond.methodLink "YawnRouteLaw" (9 : Nat) ({ cls := "YawnRoute", name := "<init>", desc := "()V" } : Jvm.MethodName)) ∈ lw_gd := mem_gd rr25.1 rfl
def rr26 := List.forall_mem_cons.mp rr25.2
theorem lk26 : (Jvm.Cond.instanceMethod ({ cls := "YawnRoute", name := "<init>", desc := "()V" } : Jvm.MethodName)) ∈ lw_gd := mem_gd rr26.1 rfl
def rr27 := List.forall_mem_cons.mp rr26.2
theorem lk27 : (Jvm.Cond.code ({ cls := "YawnRoute", name := "<init>", desc := "()V" } : Jvm.MethodName) prog_1_method_1_code (1 : Nat) (Option.none : Option Jvm.ClassFile.FieldType)) ∈ lw_gd := mem_gd rr27.1 rfl
def rr28 := List.forall_mem_cons.mp rr27.2
theorem lk28 : (Jvm.Cond.methodLink "YawnRoute" (3 : Nat) ({ cls := "java/lang/Object", name := "<init>", desc := "()V" } : Jvm.MethodName)) ∈ lw_gd := mem_gd rr28.1 rfl
def rr29 := List.forall_mem_cons.mp rr28.2
theorem lk29 : (Jvm.Cond.instanceMethod ({ cls := "java/lang/Object", name := "<init>", desc := "()V" } : Jvm.MethodName)) ∈ lw_gd := mem_gd rr29.1 rfl
def rr30 := List.forall_mem_cons.mp rr29.2
theorem lk30 : (Jvm.Cond.code ({ cls := "java/lang/Object", name := "<init>", desc := "()V" } : Jvm.MethodName) object_method_1_code (1 : Nat) (Option.none : Option Jvm.ClassFile.FieldType)) ∈ lw_gd := mem_gd rr30.1 rfl
def rr31 := List.forall_mem_cons.mp rr30.2
theorem lk31 : (Jvm.Cond.classLink "YawnRoute" (9 : Nat) "YawnRoute$Tape") ∈ lw_gd := mem_gd rr31.1 rfl
def rr32 := List.forall_mem_cons.mp rr31.2
theorem lk32 : (Jvm.Cond.instantiable "YawnRoute$Tape" (9 : Nat)) ∈ lw_gd := mem_gd rr32.1 rfl
def rr33 := List.forall_mem_cons.mp rr32.2
theorem lk33 : (Jvm.Cond.methodLinkNest "YawnRoute" (11 : Nat) ({ cls := "YawnRoute$Tape", name := "<init>", desc := "()V" } : Jvm.MethodName) "YawnRoute") ∈ lw_tbl := rr33.1
def rr34 := List.forall_mem_cons.mp rr33.2
theorem lk34 : (Jvm.Cond.instanceMethod ({ cls := "YawnRoute$Tape", name := "<init>", desc := "()V" } : Jvm.MethodName)) ∈ lw_gd := mem_gd rr34.1 rfl
def rr35 := List.forall_mem_cons.mp rr34.2
theorem lk35 : (Jvm.Cond.code ({ cls := "YawnRoute$Tape", name := "<init>", desc := "()V" } : Jvm.MethodName) prog_11_method_1_code (1 : Nat) (Option.none : Option Jvm.ClassFile.FieldType)) ∈ lw_gd := mem_gd rr35.1 rfl
def rr36 := List.forall_mem_cons.mp rr35.2
theorem lk36 : (Jvm.Cond.methodLink "YawnRoute$Tape" (3 : Nat) ({ cls := "java/lang/Object", name := "<init>", desc := "()V" } : Jvm.MethodName)) ∈ lw_gd := mem_gd rr36.1 rfl
def rr37 := List.forall_mem_cons.mp rr36.2
theorem lk37 : (Jvm.Cond.fieldLink "YawnRoute$Tape" (9 : Nat) "YawnRoute$Tape" "bytes" "[B") ∈ lw_gd := mem_gd rr37.1 rfl
def rr38 := List.forall_mem_cons.mp rr37.2
theorem lk38 : (Jvm.Cond.fieldLink "YawnRoute" (99 : Nat) "YawnRoute$Tape" "fed" "I") ∈ lw_gd := mem_gd rr38.1 rfl
def rr39 := List.forall_mem_cons.mp rr38.2
theorem lk39 : (Jvm.Cond.fieldLink "YawnRoute$Tape" (19 : Nat) "YawnRoute$Tape" "fed" "I") ∈ lw_gd := mem_gd rr39.1 rfl
def rr40 := List.forall_mem_cons.mp rr39.2
theorem lk40 : (Jvm.Cond.fieldLink "YawnRoute$Tape" (28 : Nat) "YawnRoute$Tape" "end" "I") ∈ lw_gd := mem_gd rr40.1 rfl
def rr41 := List.forall_mem_cons.mp rr40.2
theorem lk41 : (Jvm.Cond.fieldLink "YawnRoute$Tape" (31 : Nat) "YawnRoute$Tape" "at" "I") ∈ lw_gd := mem_gd rr41.1 rfl
def rr42 := List.forall_mem_cons.mp rr41.2
theorem lk42 : (Jvm.Cond.fieldLink "YawnRoute$Tape" (40 : Nat) "YawnRoute$Tape" "place" "I") ∈ lw_gd := mem_gd rr42.1 rfl
def rr43 := List.forall_mem_cons.mp rr42.2
theorem lk43 : (Jvm.Cond.fieldLink "YawnRoute$LawReader" (23 : Nat) "YawnRoute$Tape" "token" "I") ∈ lw_gd := mem_gd rr43.1 rfl
def rr44 := List.forall_mem_cons.mp rr43.2
theorem lk44 : (Jvm.Cond.fieldLink "YawnRoute$NetReader" (55 : Nat) "YawnRoute$Tape" "token" "I") ∈ lw_gd := mem_gd rr44.1 rfl
def rr45 := List.forall_mem_cons.mp rr44.2
theorem lk45 : (Jvm.Cond.fieldLink "YawnRoute$Tape" (43 : Nat) "YawnRoute$Tape" "token" "I") ∈ lw_gd := mem_gd rr45.1 rfl
def rr46 := List.forall_mem_cons.mp rr45.2
theorem lk46 : (Jvm.Cond.fieldLink "YawnRoute$Tape" (77 : Nat) "YawnRoute$Tape" "value" "I") ∈ lw_gd := mem_gd rr46.1 rfl
def rr47 := List.forall_mem_cons.mp rr46.2
theorem lk47 : (Jvm.Cond.fieldLink "YawnRoute$LawReader" (65 : Nat) "YawnRoute$Tape" "value" "I") ∈ lw_gd := mem_gd rr47.1 rfl
def rr48 := List.forall_mem_cons.mp rr47.2
theorem lk48 : (Jvm.Cond.fieldLink "YawnRoute$NetReader" (139 : Nat) "YawnRoute$Tape" "value" "I") ∈ lw_gd := mem_gd rr48.1 rfl
def rr49 := List.forall_mem_cons.mp rr48.2
theorem lk49 : (Jvm.Cond.fieldLink "YawnRoute$NetReader" (76 : Nat) "YawnRoute$Tape" "fault" "I") ∈ lw_gd := mem_gd rr49.1 rfl
def rr50 := List.forall_mem_cons.mp rr49.2
theorem lk50 : (Jvm.Cond.fieldLink "YawnRoute$Tape" (34 : Nat) "YawnRoute$Tape" "fault" "I") ∈ lw_gd := mem_gd rr50.1 rfl
def rr51 := List.forall_mem_cons.mp rr50.2
theorem lk51 : (Jvm.Cond.fieldLink "YawnRoute" (111 : Nat) "YawnRoute$Tape" "fault" "I") ∈ lw_gd := mem_gd rr51.1 rfl
def rr52 := List.forall_mem_cons.mp rr51.2
theorem lk52 : (Jvm.Cond.fieldLink "YawnRoute$Tape" (15 : Nat) "YawnRoute$Tape" "faultPlace" "I") ∈ lw_gd := mem_gd rr52.1 rfl
def rr53 := List.forall_mem_cons.mp rr52.2
theorem lk53 : (Jvm.Cond.fieldLink "YawnRoute" (124 : Nat) "YawnRoute$Tape" "faultPlace" "I") ∈ lw_gd := mem_gd rr53.1 rfl
def rr54 := List.forall_mem_cons.mp rr53.2
def rr55 := List.forall_mem_cons.mp rr54.2
def rr56 := List.forall_mem_cons.mp rr55.2
def rr57 := List.forall_mem_cons.mp rr56.2
def rr58 := List.forall_mem_cons.mp rr57.2
def rr59 := List.forall_mem_cons.mp rr58.2
def rr60 := List.forall_mem_cons.mp rr59.2
def rr61 := List.forall_mem_cons.mp rr60.2
def rr62 := List.forall_mem_cons.mp rr61.2
def rr63 := List.forall_mem_cons.mp rr62.2
def rr64 := List.forall_mem_cons.mp rr63.2
def rr65 := List.forall_mem_cons.mp rr64.2
def rr66 := List.forall_mem_cons.mp rr65.2
def rr67 := List.forall_mem_cons.mp rr66.2
def rr68 := List.forall_mem_cons.mp rr67.2
def rr69 := List.forall_mem_cons.mp rr68.2
def rr70 := List.forall_mem_cons.mp rr69.2
def rr71 := List.forall_mem_cons.mp rr70.2
def rr72 := List.forall_mem_cons.mp rr71.2
def rr73 := List.forall_mem_cons.mp rr72.2
theorem lk73 : (Jvm.Cond.arrayClass Jvm.ClassFile.FieldType.byte) ∈ lw_gd := mem_gd rr73.1 rfl
def rr74 := List.forall_mem_cons.mp rr73.2
theorem lk74 : (Jvm.Cond.classLink "YawnRoute" (16 : Nat) "YawnRoute$NetReader") ∈ lw_gd := mem_gd rr74.1 rfl
def rr75 := List.forall_mem_cons.mp rr74.2
theorem lk75 : (Jvm.Cond.instantiable "YawnRoute$NetReader" (4 : Nat)) ∈ lw_gd := mem_gd rr75.1 rfl
def rr76 := List.forall_mem_cons.mp rr75.2
theorem lk76 : (Jvm.Cond.methodLink "YawnRoute" (18 : Nat) ({ cls := "YawnRoute$NetReader", name := "<init>", desc := "(LYawnRoute$Tape;)V" } : Jvm.MethodName)) ∈ lw_gd := mem_gd rr76.1 rfl
def rr77 := List.forall_mem_cons.mp rr76.2
theorem lk77 : (Jvm.Cond.instanceMethod ({ cls := "YawnRoute$NetReader", name := "<init>", desc := "(LYawnRoute$Tape;)V" } : Jvm.MethodName)) ∈ lw_gd := mem_gd rr77.1 rfl
def rr78 := List.forall_mem_cons.mp rr77.2
theorem lk78 : (Jvm.Cond.code ({ cls := "YawnRoute$NetReader", name := "<init>", desc := "(LYawnRoute$Tape;)V" } : Jvm.MethodName) prog_5_method_1_code (2 : Nat) (Option.none : Option Jvm.ClassFile.FieldType)) ∈ lw_gd := mem_gd rr78.1 rfl
def rr79 := List.forall_mem_cons.mp rr78.2
theorem lk79 : (Jvm.Cond.methodLink "YawnRoute$NetReader" (3 : Nat) ({ cls := "java/lang/Object", name := "<init>", desc := "()V" } : Jvm.MethodName)) ∈ lw_gd := mem_gd rr79.1 rfl
def rr80 := List.forall_mem_cons.mp rr79.2
theorem lk80 : (Jvm.Cond.classLink "YawnRoute$NetReader" (9 : Nat) "YawnRoute$Net") ∈ lw_gd := mem_gd rr80.1 rfl
def rr81 := List.forall_mem_cons.mp rr80.2
theorem lk81 : (Jvm.Cond.instantiable "YawnRoute$Net" (13 : Nat)) ∈ lw_gd := mem_gd rr81.1 rfl
def rr82 := List.forall_mem_cons.mp rr81.2
theorem lk82 : (Jvm.Cond.methodLinkNest "YawnRoute$NetReader" (11 : Nat) ({ cls := "YawnRoute$Net", name := "<init>", desc := "()V" } : Jvm.MethodName) "YawnRoute") ∈ lw_tbl := rr82.1
def rr83 := List.forall_mem_cons.mp rr82.2
theorem lk83 : (Jvm.Cond.instanceMethod ({ cls := "YawnRoute$Net", name := "<init>", desc := "()V" } : Jvm.MethodName)) ∈ lw_gd := mem_gd rr83.1 rfl
def rr84 := List.forall_mem_cons.mp rr83.2
theorem lk84 : (Jvm.Cond.code ({ cls := "YawnRoute$Net", name := "<init>", desc := "()V" } : Jvm.MethodName) prog_4_method_1_code (1 : Nat) (Option.none : Option Jvm.ClassFile.FieldType)) ∈ lw_gd := mem_gd rr84.1 rfl
def rr85 := List.forall_mem_cons.mp rr84.2
theorem lk85 : (Jvm.Cond.methodLink "YawnRoute$Net" (3 : Nat) ({ cls := "java/lang/Object", name := "<init>", desc := "()V" } : Jvm.MethodName)) ∈ lw_gd := mem_gd rr85.1 rfl
def rr86 := List.forall_mem_cons.mp rr85.2
theorem lk86 : (Jvm.Cond.fieldLink "YawnRoute$Net" (30 : Nat) "YawnRoute$Net" "stations" "I") ∈ lw_gd := mem_gd rr86.1 rfl
def rr87 := List.forall_mem_cons.mp rr86.2
theorem lk87 : (Jvm.Cond.fieldLink "YawnRoute$NetReader" (79 : Nat) "YawnRoute$Net" "stations" "I") ∈ lw_gd := mem_gd rr87.1 rfl
def rr88 := List.forall_mem_cons.mp rr87.2
theorem lk88 : (Jvm.Cond.fieldLink "YawnRoute$Steps" (74 : Nat) "YawnRoute$Net" "stations" "I") ∈ lw_gd := mem_gd rr88.1 rfl
def rr89 := List.forall_mem_cons.mp rr88.2
theorem lk89 : (Jvm.Cond.fieldLink "YawnRoute$Passings" (66 : Nat) "YawnRoute$Net" "stations" "I") ∈ lw_gd := mem_gd rr89.1 rfl
def rr90 := List.forall_mem_cons.mp rr89.2
theorem lk90 : (Jvm.Cond.fieldLink "YawnRoute$Spreading" (67 : Nat) "YawnRoute$Net" "stations" "I") ∈ lw_gd := mem_gd rr90.1 rfl
def rr91 := List.forall_mem_cons.mp rr90.2
theorem lk91 : (Jvm.Cond.fieldLink "YawnRoute$Routes" (75 : Nat) "YawnRoute$Net" "stations" "I") ∈ lw_gd := mem_gd rr91.1 rfl
def rr92 := List.forall_mem_cons.mp rr91.2
theorem lk92 : (Jvm.Cond.fieldLink "YawnRoute$Deeds" (142 : Nat) "YawnRoute$Net" "stations" "I") ∈ lw_gd := mem_gd rr92.1 rfl
def rr93 := List.forall_mem_cons.mp rr92.2
theorem lk93 : (Jvm.Cond.fieldLink "YawnRoute" (360 : Nat) "YawnRoute$Net" "stations" "I") ∈ lw_gd := mem_gd rr93.1 rfl
def rr94 := List.forall_mem_cons.mp rr93.2
theorem lk94 : (Jvm.Cond.fieldLink "YawnRoute$Net" (34 : Nat) "YawnRoute$Net" "lines" "I") ∈ lw_gd := mem_gd rr94.1 rfl
def rr95 := List.forall_mem_cons.mp rr94.2
theorem lk95 : (Jvm.Cond.fieldLink "YawnRoute$NetReader" (51 : Nat) "YawnRoute$Net" "lines" "I") ∈ lw_gd := mem_gd rr95.1 rfl
def rr96 := List.forall_mem_cons.mp rr95.2
theorem lk96 : (Jvm.Cond.fieldLink "YawnRoute" (121 : Nat) "YawnRoute$Net" "lines" "I") ∈ lw_gd := mem_gd rr96.1 rfl
def rr97 := List.forall_mem_cons.mp rr96.2
theorem lk97 : (Jvm.Cond.fieldLink "YawnRoute$Net" (9 : Nat) "YawnRoute$Net" "kind" "[I") ∈ lw_gd := mem_gd rr97.1 rfl
def rr98 := List.forall_mem_cons.mp rr97.2
theorem lk98 : (Jvm.Cond.fieldLink "YawnRoute$NetReader" (97 : Nat) "YawnRoute$Net" "kind" "[I") ∈ lw_gd := mem_gd rr98.1 rfl
def rr99 := List.forall_mem_cons.mp rr98.2
theorem lk99 : (Jvm.Cond.fieldLink "YawnRoute" (134 : Nat) "YawnRoute$Net" "kind" "[I") ∈ lw_gd := mem_gd rr99.1 rfl
def rr100 := List.forall_mem_cons.mp rr99.2
theorem lk100 : (Jvm.Cond.fieldLink "YawnRoute$Net" (15 : Nat) "YawnRoute$Net" "hours" "[I") ∈ lw_gd := mem_gd rr100.1 rfl
def rr101 := List.forall_mem_cons.mp rr100.2
theorem lk101 : (Jvm.Cond.fieldLink "YawnRoute$Net" (18 : Nat) "YawnRoute$Net" "odds" "[I") ∈ lw_gd := mem_gd rr101.1 rfl
def rr102 := List.forall_mem_cons.mp rr101.2
theorem lk102 : (Jvm.Cond.fieldLink "YawnRoute$Net" (21 : Nat) "YawnRoute$Net" "code" "[I") ∈ lw_gd := mem_gd rr102.1 rfl
def rr103 := List.forall_mem_cons.mp rr102.2
theorem lk103 : (Jvm.Cond.fieldLink "YawnRoute$Net" (37 : Nat) "YawnRoute$Net" "codes" "I") ∈ lw_gd := mem_gd rr103.1 rfl
def rr104 := List.forall_mem_cons.mp rr103.2
theorem lk104 : (Jvm.Cond.fieldLink "YawnRoute$NetReader" (118 : Nat) "YawnRoute$Net" "codes" "I") ∈ lw_gd := mem_gd rr104.1 rfl
def rr105 := List.forall_mem_cons.mp rr104.2
theorem lk105 : (Jvm.Cond.fieldLink "YawnRoute$Net" (40 : Nat) "YawnRoute$Net" "takesFrom" "I") ∈ lw_gd := mem_gd rr105.1 rfl
def rr106 := List.forall_mem_cons.mp rr105.2
theorem lk106 : (Jvm.Cond.fieldLink "YawnRoute$NetReader" (121 : Nat) "YawnRoute$Net" "takesFrom" "I") ∈ lw_gd := mem_gd rr106.1 rfl
def rr107 := List.forall_mem_cons.mp rr106.2
theorem lk107 : (Jvm.Cond.fieldLink "YawnRoute$Net" (43 : Nat) "YawnRoute$Net" "takesTo" "I") ∈ lw_gd := mem_gd rr107.1 rfl
def rr108 := List.forall_mem_cons.mp rr107.2
theorem lk108 : (Jvm.Cond.fieldLink "YawnRoute$NetReader" (127 : Nat) "YawnRoute$Net" "takesTo" "I") ∈ lw_gd := mem_gd rr108.1 rfl
def rr109 := List.forall_mem_cons.mp rr108.2
theorem lk109 : (Jvm.Cond.fieldLink "YawnRoute$Net" (46 : Nat) "YawnRoute$Net" "passesFrom" "I") ∈ lw_gd := mem_gd rr109.1 rfl
def rr110 := List.forall_mem_cons.mp rr109.2
theorem lk110 : (Jvm.Cond.fieldLink "YawnRoute$NetReader" (130 : Nat) "YawnRoute$Net" "passesFrom" "I") ∈ lw_gd := mem_gd rr110.1 rfl
def rr111 := List.forall_mem_cons.mp rr110.2
theorem lk111 : (Jvm.Cond.fieldLink "YawnRoute$Net" (49 : Nat) "YawnRoute$Net" "passesTo" "I") ∈ lw_gd := mem_gd rr111.1 rfl
def rr112 := List.forall_mem_cons.mp rr111.2
theorem lk112 : (Jvm.Cond.fieldLink "YawnRoute$NetReader" (136 : Nat) "YawnRoute$Net" "passesTo" "I") ∈ lw_gd := mem_gd rr112.1 rfl
def rr113 := List.forall_mem_cons.mp rr112.2
theorem lk113 : (Jvm.Cond.fieldLink "YawnRoute$Net" (24 : Nat) "YawnRoute$Net" "asked" "[I") ∈ lw_gd := mem_gd rr113.1 rfl
def rr114 := List.forall_mem_cons.mp rr113.2
theorem lk114 : (Jvm.Cond.fieldLink "YawnRoute$Net" (27 : Nat) "YawnRoute$Net" "stack" "[I") ∈ lw_gd := mem_gd rr114.1 rfl
def rr115 := List.forall_mem_cons.mp rr114.2
def rr116 := List.forall_mem_cons.mp rr115.2
def rr117 := List.forall_mem_cons.mp rr116.2
def rr118 := List.forall_mem_cons.mp rr117.2
def rr119 := List.forall_mem_cons.mp rr118.2
def rr120 := List.forall_mem_cons.mp rr119.2
def rr121 := List.forall_mem_cons.mp rr120.2
def rr122 := List.forall_mem_cons.mp rr121.2
def rr123 := List.forall_mem_cons.mp rr122.2
def rr124 := List.forall_mem_cons.mp rr123.2
def rr125 := List.forall_mem_cons.mp rr124.2
def rr126 := List.forall_mem_cons.mp rr125.2
def rr127 := List.forall_mem_cons.mp rr126.2
def rr128 := List.forall_mem_cons.mp rr127.2
def rr129 := List.forall_mem_cons.mp rr128.2
def rr130 := List.forall_mem_cons.mp rr129.2
def rr131 := List.forall_mem_cons.mp rr130.2
def rr132 := List.forall_mem_cons.mp rr131.2
def rr133 := List.forall_mem_cons.mp rr132.2
def rr134 := List.forall_mem_cons.mp rr133.2
def rr135 := List.forall_mem_cons.mp rr134.2
def rr136 := List.forall_mem_cons.mp rr135.2
def rr137 := List.forall_mem_cons.mp rr136.2
def rr138 := List.forall_mem_cons.mp rr137.2
def rr139 := List.forall_mem_cons.mp rr138.2
def rr140 := List.forall_mem_cons.mp rr139.2
def rr141 := List.forall_mem_cons.mp rr140.2
def rr142 := List.forall_mem_cons.mp rr141.2
theorem lk142 : (Jvm.Cond.arrayClass Jvm.ClassFile.FieldType.int) ∈ lw_gd := mem_gd rr142.1 rfl
def rr143 := List.forall_mem_cons.mp rr142.2
theorem lk143 : (Jvm.Cond.classLink "YawnRoute$NetReader" (18 : Nat) "YawnRoute$State") ∈ lw_gd := mem_gd rr143.1 rfl
def rr144 := List.forall_mem_cons.mp rr143.2
theorem lk144 : (Jvm.Cond.instantiable "YawnRoute$State" (5 : Nat)) ∈ lw_gd := mem_gd rr144.1 rfl
def rr145 := List.forall_mem_cons.mp rr144.2
theorem lk145 : (Jvm.Cond.methodLinkNest "YawnRoute$NetReader" (20 : Nat) ({ cls := "YawnRoute$State", name := "<init>", desc := "()V" } : Jvm.MethodName) "YawnRoute") ∈ lw_tbl := rr145.1
def rr146 := List.forall_mem_cons.mp rr145.2
theorem lk146 : (Jvm.Cond.instanceMethod ({ cls := "YawnRoute$State", name := "<init>", desc := "()V" } : Jvm.MethodName)) ∈ lw_gd := mem_gd rr146.1 rfl
def rr147 := List.forall_mem_cons.mp rr146.2
theorem lk147 : (Jvm.Cond.code ({ cls := "YawnRoute$State", name := "<init>", desc := "()V" } : Jvm.MethodName) prog_9_method_1_code (1 : Nat) (Option.none : Option Jvm.ClassFile.FieldType)) ∈ lw_gd := mem_gd rr147.1 rfl
def rr148 := List.forall_mem_cons.mp rr147.2
theorem lk148 : (Jvm.Cond.methodLink "YawnRoute$State" (3 : Nat) ({ cls := "java/lang/Object", name := "<init>", desc := "()V" } : Jvm.MethodName)) ∈ lw_gd := mem_gd rr148.1 rfl
def rr149 := List.forall_mem_cons.mp rr148.2
theorem lk149 : (Jvm.Cond.fieldLink "YawnRoute$State" (9 : Nat) "YawnRoute$State" "where" "I") ∈ lw_gd := mem_gd rr149.1 rfl
def rr150 := List.forall_mem_cons.mp rr149.2
theorem lk150 : (Jvm.Cond.fieldLink "YawnRoute$Spreading" (53 : Nat) "YawnRoute$State" "where" "I") ∈ lw_gd := mem_gd rr150.1 rfl
def rr151 := List.forall_mem_cons.mp rr150.2
theorem lk151 : (Jvm.Cond.fieldLink "YawnRoute" (144 : Nat) "YawnRoute$State" "where" "I") ∈ lw_gd := mem_gd rr151.1 rfl
def rr152 := List.forall_mem_cons.mp rr151.2
theorem lk152 : (Jvm.Cond.fieldLink "YawnRoute$Deeds" (57 : Nat) "YawnRoute$State" "where" "I") ∈ lw_gd := mem_gd rr152.1 rfl
def rr153 := List.forall_mem_cons.mp rr152.2
theorem lk153 : (Jvm.Cond.fieldLink "YawnRoute$NetReader" (112 : Nat) "YawnRoute$State" "where" "I") ∈ lw_gd := mem_gd rr153.1 rfl
def rr154 := List.forall_mem_cons.mp rr153.2
theorem lk154 : (Jvm.Cond.fieldLink "YawnRoute$Routes" (95 : Nat) "YawnRoute$State" "where" "I") ∈ lw_gd := mem_gd rr154.1 rfl
def rr155 := List.forall_mem_cons.mp rr154.2
theorem lk155 : (Jvm.Cond.fieldLink "YawnRoute$State" (19 : Nat) "YawnRoute$State" "size" "I") ∈ lw_gd := mem_gd rr155.1 rfl
def rr156 := List.forall_mem_cons.mp rr155.2
theorem lk156 : (Jvm.Cond.fieldLink "YawnRoute$Spreading" (56 : Nat) "YawnRoute$State" "size" "I") ∈ lw_gd := mem_gd rr156.1 rfl
def rr157 := List.forall_mem_cons.mp rr156.2
theorem lk157 : (Jvm.Cond.fieldLink "YawnRoute$Deeds" (64 : Nat) "YawnRoute$State" "size" "I") ∈ lw_gd := mem_gd rr157.1 rfl
def rr158 := List.forall_mem_cons.mp rr157.2
theorem lk158 : (Jvm.Cond.fieldLink "YawnRoute$NetReader" (115 : Nat) "YawnRoute$State" "size" "I") ∈ lw_gd := mem_gd rr158.1 rfl
def rr159 := List.forall_mem_cons.mp rr158.2
theorem lk159 : (Jvm.Cond.fieldLink "YawnRoute" (164 : Nat) "YawnRoute$State" "size" "I") ∈ lw_gd := mem_gd rr159.1 rfl
def rr160 := List.forall_mem_cons.mp rr159.2
theorem lk160 : (Jvm.Cond.fieldLink "YawnRoute$State" (22 : Nat) "YawnRoute$State" "hours" "I") ∈ lw_gd := mem_gd rr160.1 rfl
def rr161 := List.forall_mem_cons.mp rr160.2
theorem lk161 : (Jvm.Cond.fieldLink "YawnRoute$Deeds" (83 : Nat) "YawnRoute$State" "hours" "I") ∈ lw_gd := mem_gd rr161.1 rfl
def rr162 := List.forall_mem_cons.mp rr161.2
theorem lk162 : (Jvm.Cond.fieldLink "YawnRoute" (174 : Nat) "YawnRoute$State" "hours" "I") ∈ lw_gd := mem_gd rr162.1 rfl
def rr163 := List.forall_mem_cons.mp rr162.2
theorem lk163 : (Jvm.Cond.fieldLink "YawnRoute$Spreading" (39 : Nat) "YawnRoute$State" "asleep" "I") ∈ lw_gd := mem_gd rr163.1 rfl
def rr164 := List.forall_mem_cons.mp rr163.2
theorem lk164 : (Jvm.Cond.fieldLink "YawnRoute$Steps" (40 : Nat) "YawnRoute$State" "asleep" "I") ∈ lw_gd := mem_gd rr164.1 rfl
def rr165 := List.forall_mem_cons.mp rr164.2
theorem lk165 : (Jvm.Cond.fieldLink "YawnRoute$State" (25 : Nat) "YawnRoute$State" "asleep" "I") ∈ lw_gd := mem_gd rr165.1 rfl
def rr166 := List.forall_mem_cons.mp rr165.2
theorem lk166 : (Jvm.Cond.fieldLink "YawnRoute$Routes" (37 : Nat) "YawnRoute$State" "asleep" "I") ∈ lw_gd := mem_gd rr166.1 rfl
def rr167 := List.forall_mem_cons.mp rr166.2
theorem lk167 : (Jvm.Cond.fieldLink "YawnRoute$NetReader" (101 : Nat) "YawnRoute$State" "asleep" "I") ∈ lw_gd := mem_gd rr167.1 rfl
def rr168 := List.forall_mem_cons.mp rr167.2
theorem lk168 : (Jvm.Cond.fieldLink "YawnRoute$Deeds" (89 : Nat) "YawnRoute$State" "asleep" "I") ∈ lw_gd := mem_gd rr168.1 rfl
def rr169 := List.forall_mem_cons.mp rr168.2
theorem lk169 : (Jvm.Cond.fieldLink "YawnRoute" (241 : Nat) "YawnRoute$State" "asleep" "I") ∈ lw_gd := mem_gd rr169.1 rfl
def rr170 := List.forall_mem_cons.mp rr169.2
theorem lk170 : (Jvm.Cond.fieldLink "YawnRoute$State" (15 : Nat) "YawnRoute$State" "dull" "[I") ∈ lw_gd := mem_gd rr170.1 rfl
def rr171 := List.forall_mem_cons.mp rr170.2
def rr172 := List.forall_mem_cons.mp rr171.2
def rr173 := List.forall_mem_cons.mp rr172.2
def rr174 := List.forall_mem_cons.mp rr173.2
def rr175 := List.forall_mem_cons.mp rr174.2
def rr176 := List.forall_mem_cons.mp rr175.2
def rr177 := List.forall_mem_cons.mp rr176.2
def rr178 := List.forall_mem_cons.mp rr177.2
def rr179 := List.forall_mem_cons.mp rr178.2
def rr180 := List.forall_mem_cons.mp rr179.2
def rr181 := List.forall_mem_cons.mp rr180.2
def rr182 := List.forall_mem_cons.mp rr181.2
theorem lk182 : (Jvm.Cond.classLink "YawnRoute$NetReader" (29 : Nat) "YawnRoute$LawReader") ∈ lw_gd := mem_gd rr182.1 rfl
def rr183 := List.forall_mem_cons.mp rr182.2
theorem lk183 : (Jvm.Cond.instantiable "YawnRoute$LawReader" (2 : Nat)) ∈ lw_gd := mem_gd rr183.1 rfl
def rr184 := List.forall_mem_cons.mp rr183.2
theorem lk184 : (Jvm.Cond.methodLink "YawnRoute$NetReader" (31 : Nat) ({ cls := "YawnRoute$LawReader", name := "<init>", desc := "(LYawnRoute$Tape;LYawnRoute$Net;)V" } : Jvm.MethodName)) ∈ lw_gd := mem_gd rr184.1 rfl
def rr185 := List.forall_mem_cons.mp rr184.2
theorem lk185 : (Jvm.Cond.instanceMethod ({ cls := "YawnRoute$LawReader", name := "<init>", desc := "(LYawnRoute$Tape;LYawnRoute$Net;)V" } : Jvm.MethodName)) ∈ lw_gd := mem_gd rr185.1 rfl
def rr186 := List.forall_mem_cons.mp rr185.2
theorem lk186 : (Jvm.Cond.code ({ cls := "YawnRoute$LawReader", name := "<init>", desc := "(LYawnRoute$Tape;LYawnRoute$Net;)V" } : Jvm.MethodName) prog_3_method_1_code (3 : Nat) (Option.none : Option Jvm.ClassFile.FieldType)) ∈ lw_gd := mem_gd rr186.1 rfl
def rr187 := List.forall_mem_cons.mp rr186.2
theorem lk187 : (Jvm.Cond.methodLink "YawnRoute$LawReader" (3 : Nat) ({ cls := "java/lang/Object", name := "<init>", desc := "()V" } : Jvm.MethodName)) ∈ lw_gd := mem_gd rr187.1 rfl
def rr188 := List.forall_mem_cons.mp rr187.2
theorem lk188 : (Jvm.Cond.fieldLink "YawnRoute$LawReader" (9 : Nat) "YawnRoute$LawReader" "tape" "LYawnRoute$Tape;") ∈ lw_gd := mem_gd rr188.1 rfl
def rr189 := List.forall_mem_cons.mp rr188.2
theorem lk189 : (Jvm.Cond.fieldLink "YawnRoute$LawReader" (15 : Nat) "YawnRoute$LawReader" "net" "LYawnRoute$Net;") ∈ lw_gd := mem_gd rr189.1 rfl
def rr190 := List.forall_mem_cons.mp rr189.2
def rr191 := List.forall_mem_cons.mp rr190.2
def rr192 := List.forall_mem_cons.mp rr191.2
def rr193 := List.forall_mem_cons.mp rr192.2
def rr194 := List.forall_mem_cons.mp rr193.2
def rr195 := List.forall_mem_cons.mp rr194.2
theorem lk195 : (Jvm.Cond.fieldLink "YawnRoute$NetReader" (25 : Nat) "YawnRoute$NetReader" "tape" "LYawnRoute$Tape;") ∈ lw_gd := mem_gd rr195.1 rfl
def rr196 := List.forall_mem_cons.mp rr195.2
theorem lk196 : (Jvm.Cond.fieldLink "YawnRoute$NetReader" (12 : Nat) "YawnRoute$NetReader" "net" "LYawnRoute$Net;") ∈ lw_gd := mem_gd rr196.1 rfl
def rr197 := List.forall_mem_cons.mp rr196.2
theorem lk197 : (Jvm.Cond.fieldLink "YawnRoute" (114 : Nat) "YawnRoute$NetReader" "net" "LYawnRoute$Net;") ∈ lw_gd := mem_gd rr197.1 rfl
def rr198 := List.forall_mem_cons.mp rr197.2
theorem lk198 : (Jvm.Cond.fieldLink "YawnRoute$NetReader" (21 : Nat) "YawnRoute$NetReader" "start" "LYawnRoute$State;") ∈ lw_gd := mem_gd rr198.1 rfl
def rr199 := List.forall_mem_cons.mp rr198.2
theorem lk199 : (Jvm.Cond.fieldLink "YawnRoute" (115 : Nat) "YawnRoute$NetReader" "start" "LYawnRoute$State;") ∈ lw_gd := mem_gd rr199.1 rfl
def rr200 := List.forall_mem_cons.mp rr199.2
theorem lk200 : (Jvm.Cond.fieldLink "YawnRoute$NetReader" (34 : Nat) "YawnRoute$NetReader" "laws" "LYawnRoute$LawReader;") ∈ lw_gd := mem_gd rr200.1 rfl
def rr201 := List.forall_mem_cons.mp rr200.2
def rr202 := List.forall_mem_cons.mp rr201.2
def rr203 := List.forall_mem_cons.mp rr202.2
def rr204 := List.forall_mem_cons.mp rr203.2
def rr205 := List.forall_mem_cons.mp rr204.2
def rr206 := List.forall_mem_cons.mp rr205.2
def rr207 := List.forall_mem_cons.mp rr206.2
def rr208 := List.forall_mem_cons.mp rr207.2
def rr209 := List.forall_mem_cons.mp rr208.2
def rr210 := List.forall_mem_cons.mp rr209.2
theorem lk210 : (Jvm.Cond.classLink "YawnRoute" (25 : Nat) "YawnRoute$Net") ∈ lw_gd := mem_gd rr210.1 rfl
def rr211 := List.forall_mem_cons.mp rr210.2
theorem lk211 : (Jvm.Cond.methodLinkNest "YawnRoute" (27 : Nat) ({ cls := "YawnRoute$Net", name := "<init>", desc := "()V" } : Jvm.MethodName) "YawnRoute") ∈ lw_tbl := rr211.1
def rr212 := List.forall_mem_cons.mp rr211.2
theorem lk212 : (Jvm.Cond.classLink "YawnRoute" (32 : Nat) "YawnRoute$State") ∈ lw_gd := mem_gd rr212.1 rfl
def rr213 := List.forall_mem_cons.mp rr212.2
theorem lk213 : (Jvm.Cond.methodLinkNest "YawnRoute" (34 : Nat) ({ cls := "YawnRoute$State", name := "<init>", desc := "()V" } : Jvm.MethodName) "YawnRoute") ∈ lw_tbl := rr213.1
def rr214 := List.forall_mem_cons.mp rr213.2
theorem lk214 : (Jvm.Cond.classLink "YawnRoute" (39 : Nat) "YawnRoute$Trays") ∈ lw_gd := mem_gd rr214.1 rfl
def rr215 := List.forall_mem_cons.mp rr214.2
theorem lk215 : (Jvm.Cond.instantiable "YawnRoute$Trays" (3 : Nat)) ∈ lw_gd := mem_gd rr215.1 rfl
def rr216 := List.forall_mem_cons.mp rr215.2
theorem lk216 : (Jvm.Cond.methodLinkNest "YawnRoute" (41 : Nat) ({ cls := "YawnRoute$Trays", name := "<init>", desc := "()V" } : Jvm.MethodName) "YawnRoute") ∈ lw_tbl := rr216.1
def rr217 := List.forall_mem_cons.mp rr216.2
theorem lk217 : (Jvm.Cond.instanceMethod ({ cls := "YawnRoute$Trays", name := "<init>", desc := "()V" } : Jvm.MethodName)) ∈ lw_gd := mem_gd rr217.1 rfl
def rr218 := List.forall_mem_cons.mp rr217.2
theorem lk218 : (Jvm.Cond.code ({ cls := "YawnRoute$Trays", name := "<init>", desc := "()V" } : Jvm.MethodName) prog_12_method_1_code (1 : Nat) (Option.none : Option Jvm.ClassFile.FieldType)) ∈ lw_gd := mem_gd rr218.1 rfl
def rr219 := List.forall_mem_cons.mp rr218.2
theorem lk219 : (Jvm.Cond.methodLink "YawnRoute$Trays" (3 : Nat) ({ cls := "java/lang/Object", name := "<init>", desc := "()V" } : Jvm.MethodName)) ∈ lw_gd := mem_gd rr219.1 rfl
def rr220 := List.forall_mem_cons.mp rr219.2
theorem lk220 : (Jvm.Cond.classLink "YawnRoute$Trays" (9 : Nat) "[[J") ∈ lw_gd := mem_gd rr220.1 rfl
def rr221 := List.forall_mem_cons.mp rr220.2
theorem lk221 : (Jvm.Cond.arrayOver (Jvm.ClassFile.FieldType.array Jvm.ClassFile.FieldType.long)) ∈ lw_tbl := rr221.1
def rr222 := List.forall_mem_cons.mp rr221.2
theorem lk222 : (Jvm.Cond.fieldLink "YawnRoute$Trays" (11 : Nat) "YawnRoute$Trays" "numbers" "[[J") ∈ lw_gd := mem_gd rr222.1 rfl
def rr223 := List.forall_mem_cons.mp rr222.2
theorem lk223 : (Jvm.Cond.fieldLink "YawnRoute$Trays" (16 : Nat) "YawnRoute$Trays" "sort" "[I") ∈ lw_gd := mem_gd rr223.1 rfl
def rr224 := List.forall_mem_cons.mp rr223.2
theorem lk224 : (Jvm.Cond.fieldLink "YawnRoute$Trays" (20 : Nat) "YawnRoute$Trays" "length" "[I") ∈ lw_gd := mem_gd rr224.1 rfl
def rr225 := List.forall_mem_cons.mp rr224.2
def rr226 := List.forall_mem_cons.mp rr225.2
def rr227 := List.forall_mem_cons.mp rr226.2
def rr228 := List.forall_mem_cons.mp rr227.2
def rr229 := List.forall_mem_cons.mp rr228.2
def rr230 := List.forall_mem_cons.mp rr229.2
def rr231 := List.forall_mem_cons.mp rr230.2
def rr232 := List.forall_mem_cons.mp rr231.2
theorem lk232 : (Jvm.Cond.arrayClass Jvm.ClassFile.FieldType.long) ∈ lw_gd := mem_gd rr232.1 rfl
def rr233 := List.forall_mem_cons.mp rr232.2
theorem lk233 : (Jvm.Cond.classLink "YawnRoute" (46 : Nat) "YawnRoute$Deeds") ∈ lw_gd := mem_gd rr233.1 rfl
def rr234 := List.forall_mem_cons.mp rr233.2
theorem lk234 : (Jvm.Cond.instantiable "YawnRoute$Deeds" (10 : Nat)) ∈ lw_gd := mem_gd rr234.1 rfl
def rr235 := List.forall_mem_cons.mp rr234.2
theorem lk235 : (Jvm.Cond.methodLink "YawnRoute" (48 : Nat) ({ cls := "YawnRoute$Deeds", name := "<init>", desc := "(LYawnRoute$Net;LYawnRoute$State;LYawnRoute$Trays;)V" } : Jvm.MethodName)) ∈ lw_gd := mem_gd rr235.1 rfl
def rr236 := List.forall_mem_cons.mp rr235.2
theorem lk236 : (Jvm.Cond.instanceMethod ({ cls := "YawnRoute$Deeds", name := "<init>", desc := "(LYawnRoute$Net;LYawnRoute$State;LYawnRoute$Trays;)V" } : Jvm.MethodName)) ∈ lw_gd := mem_gd rr236.1 rfl
def rr237 := List.forall_mem_cons.mp rr236.2
theorem lk237 : (Jvm.Cond.code ({ cls := "YawnRoute$Deeds", name := "<init>", desc := "(LYawnRoute$Net;LYawnRoute$State;LYawnRoute$Trays;)V" } : Jvm.MethodName) prog_2_method_1_code (5 : Nat) (Option.none : Option Jvm.ClassFile.FieldType)) ∈ lw_gd := mem_gd rr237.1 rfl
def rr238 := List.forall_mem_cons.mp rr237.2
theorem lk238 : (Jvm.Cond.methodLink "YawnRoute$Deeds" (3 : Nat) ({ cls := "java/lang/Object", name := "<init>", desc := "()V" } : Jvm.MethodName)) ∈ lw_gd := mem_gd rr238.1 rfl
def rr239 := List.forall_mem_cons.mp rr238.2
theorem lk239 : (Jvm.Cond.classLink "YawnRoute$Deeds" (9 : Nat) "YawnRoute$State") ∈ lw_gd := mem_gd rr239.1 rfl
theorem tq1 : ∀ w ∈ tables_1_2, w ∈ lw_tbl := fun w h => List.mem_append_right _ (List.mem_append_right _ (List.mem_append_left _ h))
def rr240 := List.forall_mem_cons.mp tq1
theorem lk240 : (Jvm.Cond.methodLinkNest "YawnRoute$Deeds" (11 : Nat) ({ cls := "YawnRoute$State", name := "<init>", desc := "()V" } : Jvm.MethodName) "YawnRoute") ∈ lw_tbl := rr240.1
def rr241 := List.forall_mem_cons.mp rr240.2
theorem lk241 : (Jvm.Cond.arrayOver (Jvm.ClassFile.FieldType.object "YawnRoute$State")) ∈ lw_tbl := rr241.1
def rr242 := List.forall_mem_cons.mp rr241.2
theorem lk242 : (Jvm.Cond.fieldLink "YawnRoute$Deeds" (26 : Nat) "YawnRoute$Deeds" "net" "LYawnRoute$Net;") ∈ lw_gd := mem_gd rr242.1 rfl
def rr243 := List.forall_mem_cons.mp rr242.2
theorem lk243 : (Jvm.Cond.fieldLink "YawnRoute$Deeds" (30 : Nat) "YawnRoute$Deeds" "state" "LYawnRoute$State;") ∈ lw_gd := mem_gd rr243.1 rfl
def rr244 := List.forall_mem_cons.mp rr243.2
theorem lk244 : (Jvm.Cond.fieldLink "YawnRoute$Deeds" (33 : Nat) "YawnRoute$Deeds" "trays" "LYawnRoute$Trays;") ∈ lw_gd := mem_gd rr244.1 rfl
def rr245 := List.forall_mem_cons.mp rr244.2
theorem lk245 : (Jvm.Cond.fieldLink "YawnRoute$Deeds" (12 : Nat) "YawnRoute$Deeds" "trial" "LYawnRoute$State;") ∈ lw_gd := mem_gd rr245.1 rfl
def rr246 := List.forall_mem_cons.mp rr245.2
theorem lk246 : (Jvm.Cond.fieldLink "YawnRoute" (204 : Nat) "YawnRoute$Deeds" "trial" "LYawnRoute$State;") ∈ lw_gd := mem_gd rr246.1 rfl
def rr247 := List.forall_mem_cons.mp rr246.2
theorem lk247 : (Jvm.Cond.fieldLink "YawnRoute$Deeds" (101 : Nat) "YawnRoute$Deeds" "why" "I") ∈ lw_gd := mem_gd rr247.1 rfl
def rr248 := List.forall_mem_cons.mp rr247.2
theorem lk248 : (Jvm.Cond.fieldLink "YawnRoute" (201 : Nat) "YawnRoute$Deeds" "why" "I") ∈ lw_gd := mem_gd rr248.1 rfl
def rr249 := List.forall_mem_cons.mp rr248.2
theorem lk249 : (Jvm.Cond.fieldLink "YawnRoute$Deeds" (45 : Nat) "YawnRoute$Deeds" "kept" "I") ∈ lw_gd := mem_gd rr249.1 rfl
def rr250 := List.forall_mem_cons.mp rr249.2
theorem lk250 : (Jvm.Cond.fieldLink "YawnRoute" (183 : Nat) "YawnRoute$Deeds" "kept" "I") ∈ lw_gd := mem_gd rr250.1 rfl
def rr251 := List.forall_mem_cons.mp rr250.2
theorem lk251 : (Jvm.Cond.fieldLink "YawnRoute$Deeds" (18 : Nat) "YawnRoute$Deeds" "past" "[LYawnRoute$State;") ∈ lw_gd := mem_gd rr251.1 rfl
def rr252 := List.forall_mem_cons.mp rr251.2
theorem lk252 : (Jvm.Cond.fieldLink "YawnRoute$Deeds" (37 : Nat) "YawnRoute$Deeds" "head" "I") ∈ lw_gd := mem_gd rr252.1 rfl
def rr253 := List.forall_mem_cons.mp rr252.2
theorem lk253 : (Jvm.Cond.fieldLink "YawnRoute$Deeds" (131 : Nat) "YawnRoute$Deeds" "drawn" "I") ∈ lw_gd := mem_gd rr253.1 rfl
def rr254 := List.forall_mem_cons.mp rr253.2
theorem lk254 : (Jvm.Cond.fieldLink "YawnRoute$Deeds" (22 : Nat) "YawnRoute$Deeds" "alike" "[I") ∈ lw_gd := mem_gd rr254.1 rfl
def rr255 := List.forall_mem_cons.mp rr254.2
def rr256 := List.forall_mem_cons.mp rr255.2
def rr257 := List.forall_mem_cons.mp rr256.2
def rr258 := List.forall_mem_cons.mp rr257.2
def rr259 := List.forall_mem_cons.mp rr258.2
def rr260 := List.forall_mem_cons.mp rr259.2
def rr261 := List.forall_mem_cons.mp rr260.2
def rr262 := List.forall_mem_cons.mp rr261.2
def rr263 := List.forall_mem_cons.mp rr262.2
def rr264 := List.forall_mem_cons.mp rr263.2
def rr265 := List.forall_mem_cons.mp rr264.2
def rr266 := List.forall_mem_cons.mp rr265.2
def rr267 := List.forall_mem_cons.mp rr266.2
def rr268 := List.forall_mem_cons.mp rr267.2
def rr269 := List.forall_mem_cons.mp rr268.2
def rr270 := List.forall_mem_cons.mp rr269.2
def rr271 := List.forall_mem_cons.mp rr270.2
def rr272 := List.forall_mem_cons.mp rr271.2
def rr273 := List.forall_mem_cons.mp rr272.2
def rr274 := List.forall_mem_cons.mp rr273.2
def rr275 := List.forall_mem_cons.mp rr274.2
def rr276 := List.forall_mem_cons.mp rr275.2
theorem lk276 : (Jvm.Cond.classLink "YawnRoute" (55 : Nat) "YawnRoute$Passings") ∈ lw_gd := mem_gd rr276.1 rfl
def rr277 := List.forall_mem_cons.mp rr276.2
theorem lk277 : (Jvm.Cond.instantiable "YawnRoute$Passings" (7 : Nat)) ∈ lw_gd := mem_gd rr277.1 rfl
def rr278 := List.forall_mem_cons.mp rr277.2
theorem lk278 : (Jvm.Cond.methodLink "YawnRoute" (57 : Nat) ({ cls := "YawnRoute$Passings", name := "<init>", desc := "(LYawnRoute$Net;LYawnRoute$State;)V" } : Jvm.MethodName)) ∈ lw_gd := mem_gd rr278.1 rfl
def rr279 := List.forall_mem_cons.mp rr278.2
theorem lk279 : (Jvm.Cond.instanceMethod ({ cls := "YawnRoute$Passings", name := "<init>", desc := "(LYawnRoute$Net;LYawnRoute$State;)V" } : Jvm.MethodName)) ∈ lw_gd := mem_gd rr279.1 rfl
def rr280 := List.forall_mem_cons.mp rr279.2
theorem lk280 : (Jvm.Cond.code ({ cls := "YawnRoute$Passings", name := "<init>", desc := "(LYawnRoute$Net;LYawnRoute$State;)V" } : Jvm.MethodName) prog_6_method_1_code (3 : Nat) (Option.none : Option Jvm.ClassFile.FieldType)) ∈ lw_gd := mem_gd rr280.1 rfl
def rr281 := List.forall_mem_cons.mp rr280.2
theorem lk281 : (Jvm.Cond.methodLink "YawnRoute$Passings" (3 : Nat) ({ cls := "java/lang/Object", name := "<init>", desc := "()V" } : Jvm.MethodName)) ∈ lw_gd := mem_gd rr281.1 rfl
def rr282 := List.forall_mem_cons.mp rr281.2
theorem lk282 : (Jvm.Cond.methodLink "YawnRoute$Passings" (34 : Nat) ({ cls := "YawnRoute$Passings", name := "forgetAll", desc := "()V" } : Jvm.MethodName)) ∈ lw_gd := mem_gd rr282.1 rfl
def rr283 := List.forall_mem_cons.mp rr282.2
theorem lk283 : (Jvm.Cond.instanceMethod ({ cls := "YawnRoute$Passings", name := "forgetAll", desc := "()V" } : Jvm.MethodName)) ∈ lw_gd := mem_gd rr283.1 rfl
def rr284 := List.forall_mem_cons.mp rr283.2
theorem lk284 : (Jvm.Cond.selects "YawnRoute$Passings" ({ cls := "YawnRoute$Passings", name := "forgetAll", desc := "()V" } : Jvm.MethodName) ({ cls := "YawnRoute$Passings", name := "forgetAll", desc := "()V" } : Jvm.MethodName)) ∈ lw_gd := mem_gd rr284.1 rfl
def rr285 := List.forall_mem_cons.mp rr284.2
theorem lk285 : (Jvm.Cond.code ({ cls := "YawnRoute$Passings", name := "forgetAll", desc := "()V" } : Jvm.MethodName) prog_6_method_2_code (1 : Nat) (Option.none : Option Jvm.ClassFile.FieldType)) ∈ lw_gd := mem_gd rr285.1 rfl
def rr286 := List.forall_mem_cons.mp rr285.2
theorem lk286 : (Jvm.Cond.methodLink "YawnRoute$Passings" (37 : Nat) ({ cls := "java/util/Arrays", name := "fill", desc := "([BB)V" } : Jvm.MethodName)) ∈ lw_gd := mem_gd rr286.1 rfl
def rr287 := List.forall_mem_cons.mp rr286.2
theorem lk287 : (Jvm.Cond.static ({ cls := "java/util/Arrays", name := "fill", desc := "([BB)V" } : Jvm.MethodName)) ∈ lw_gd := mem_gd rr287.1 rfl
def rr288 := List.forall_mem_cons.mp rr287.2
theorem lk288 : (Jvm.Cond.code ({ cls := "java/util/Arrays", name := "fill", desc := "([BB)V" } : Jvm.MethodName) prog_22_method_109_code (4 : Nat) (Option.none : Option Jvm.ClassFile.FieldType)) ∈ lw_gd := mem_gd rr288.1 rfl
def rr289 := List.forall_mem_cons.mp rr288.2
theorem lk289 : (Jvm.Cond.fieldLink "YawnRoute$Passings" (26 : Nat) "YawnRoute$Passings" "net" "LYawnRoute$Net;") ∈ lw_gd := mem_gd rr289.1 rfl
def rr290 := List.forall_mem_cons.mp rr289.2
theorem lk290 : (Jvm.Cond.fieldLink "YawnRoute$Passings" (30 : Nat) "YawnRoute$Passings" "state" "LYawnRoute$State;") ∈ lw_gd := mem_gd rr290.1 rfl
def rr291 := List.forall_mem_cons.mp rr290.2
theorem lk291 : (Jvm.Cond.fieldLink "YawnRoute$Passings" (9 : Nat) "YawnRoute$Passings" "brought" "[B") ∈ lw_gd := mem_gd rr291.1 rfl
def rr292 := List.forall_mem_cons.mp rr291.2
theorem lk292 : (Jvm.Cond.fieldLink "YawnRoute$Passings" (15 : Nat) "YawnRoute$Passings" "dullThen" "[I") ∈ lw_gd := mem_gd rr292.1 rfl
def rr293 := List.forall_mem_cons.mp rr292.2
theorem lk293 : (Jvm.Cond.fieldLink "YawnRoute$Passings" (19 : Nat) "YawnRoute$Passings" "sizes" "[J") ∈ lw_gd := mem_gd rr293.1 rfl
def rr294 := List.forall_mem_cons.mp rr293.2
theorem lk294 : (Jvm.Cond.fieldLink "YawnRoute$Passings" (23 : Nat) "YawnRoute$Passings" "reached" "[I") ∈ lw_gd := mem_gd rr294.1 rfl
def rr295 := List.forall_mem_cons.mp rr294.2
theorem lk295 : (Jvm.Cond.fieldLink "YawnRoute$Steps" (63 : Nat) "YawnRoute$Passings" "reached" "[I") ∈ lw_gd := mem_gd rr295.1 rfl
def rr296 := List.forall_mem_cons.mp rr295.2
theorem lk296 : (Jvm.Cond.fieldLink "YawnRoute$Routes" (72 : Nat) "YawnRoute$Passings" "reached" "[I") ∈ lw_gd := mem_gd rr296.1 rfl
def rr297 := List.forall_mem_cons.mp rr296.2
theorem lk297 : (Jvm.Cond.fieldLink "YawnRoute$Steps" (60 : Nat) "YawnRoute$Passings" "found" "I") ∈ lw_gd := mem_gd rr297.1 rfl
def rr298 := List.forall_mem_cons.mp rr297.2
theorem lk298 : (Jvm.Cond.fieldLink "YawnRoute$Passings" (58 : Nat) "YawnRoute$Passings" "found" "I") ∈ lw_gd := mem_gd rr298.1 rfl
def rr299 := List.forall_mem_cons.mp rr298.2
theorem lk299 : (Jvm.Cond.fieldLink "YawnRoute$Routes" (69 : Nat) "YawnRoute$Passings" "found" "I") ∈ lw_gd := mem_gd rr299.1 rfl
def rr300 := List.forall_mem_cons.mp rr299.2
def rr301 := List.forall_mem_cons.mp rr300.2
def rr302 := List.forall_mem_cons.mp rr301.2
def rr303 := List.forall_mem_cons.mp rr302.2
def rr304 := List.forall_mem_cons.mp rr303.2
def rr305 := List.forall_mem_cons.mp rr304.2
def rr306 := List.forall_mem_cons.mp rr305.2
def rr307 := List.forall_mem_cons.mp rr306.2
def rr308 := List.forall_mem_cons.mp rr307.2
def rr309 := List.forall_mem_cons.mp rr308.2
def rr310 := List.forall_mem_cons.mp rr309.2
def rr311 := List.forall_mem_cons.mp rr310.2
def rr312 := List.forall_mem_cons.mp rr311.2
def rr313 := List.forall_mem_cons.mp rr312.2
def rr314 := List.forall_mem_cons.mp rr313.2
def rr315 := List.forall_mem_cons.mp rr314.2
theorem lk315 : (Jvm.Cond.classLink "YawnRoute" (64 : Nat) "YawnRoute$Routes") ∈ lw_gd := mem_gd rr315.1 rfl
def rr316 := List.forall_mem_cons.mp rr315.2
theorem lk316 : (Jvm.Cond.instantiable "YawnRoute$Routes" (5 : Nat)) ∈ lw_gd := mem_gd rr316.1 rfl
def rr317 := List.forall_mem_cons.mp rr316.2
theorem lk317 : (Jvm.Cond.methodLink "YawnRoute" (66 : Nat) ({ cls := "YawnRoute$Routes", name := "<init>", desc := "(LYawnRoute$Net;LYawnRoute$State;LYawnRoute$Passings;)V" } : Jvm.MethodName)) ∈ lw_gd := mem_gd rr317.1 rfl
def rr318 := List.forall_mem_cons.mp rr317.2
theorem lk318 : (Jvm.Cond.instanceMethod ({ cls := "YawnRoute$Routes", name := "<init>", desc := "(LYawnRoute$Net;LYawnRoute$State;LYawnRoute$Passings;)V" } : Jvm.MethodName)) ∈ lw_gd := mem_gd rr318.1 rfl
def rr319 := List.forall_mem_cons.mp rr318.2
theorem lk319 : (Jvm.Cond.code ({ cls := "YawnRoute$Routes", name := "<init>", desc := "(LYawnRoute$Net;LYawnRoute$State;LYawnRoute$Passings;)V" } : Jvm.MethodName) prog_7_method_1_code (4 : Nat) (Option.none : Option Jvm.ClassFile.FieldType)) ∈ lw_gd := mem_gd rr319.1 rfl
def rr320 := List.forall_mem_cons.mp rr319.2
theorem lk320 : (Jvm.Cond.methodLink "YawnRoute$Routes" (3 : Nat) ({ cls := "java/lang/Object", name := "<init>", desc := "()V" } : Jvm.MethodName)) ∈ lw_gd := mem_gd rr320.1 rfl
def rr321 := List.forall_mem_cons.mp rr320.2
theorem lk321 : (Jvm.Cond.fieldLink "YawnRoute$Routes" (15 : Nat) "YawnRoute$Routes" "net" "LYawnRoute$Net;") ∈ lw_gd := mem_gd rr321.1 rfl
def rr322 := List.forall_mem_cons.mp rr321.2
theorem lk322 : (Jvm.Cond.fieldLink "YawnRoute$Routes" (19 : Nat) "YawnRoute$Routes" "state" "LYawnRoute$State;") ∈ lw_gd := mem_gd rr322.1 rfl
def rr323 := List.forall_mem_cons.mp rr322.2
theorem lk323 : (Jvm.Cond.fieldLink "YawnRoute$Routes" (23 : Nat) "YawnRoute$Routes" "passings" "LYawnRoute$Passings;") ∈ lw_gd := mem_gd rr323.1 rfl
def rr324 := List.forall_mem_cons.mp rr323.2
theorem lk324 : (Jvm.Cond.fieldLink "YawnRoute$Routes" (9 : Nat) "YawnRoute$Routes" "cost" "[I") ∈ lw_gd := mem_gd rr324.1 rfl
def rr325 := List.forall_mem_cons.mp rr324.2
theorem lk325 : (Jvm.Cond.fieldLink "YawnRoute$Routes" (27 : Nat) "YawnRoute$Routes" "byHours" "Z") ∈ lw_gd := mem_gd rr325.1 rfl
def rr326 := List.forall_mem_cons.mp rr325.2
def rr327 := List.forall_mem_cons.mp rr326.2
def rr328 := List.forall_mem_cons.mp rr327.2
def rr329 := List.forall_mem_cons.mp rr328.2
def rr330 := List.forall_mem_cons.mp rr329.2
def rr331 := List.forall_mem_cons.mp rr330.2
def rr332 := List.forall_mem_cons.mp rr331.2
def rr333 := List.forall_mem_cons.mp rr332.2
def rr334 := List.forall_mem_cons.mp rr333.2
def rr335 := List.forall_mem_cons.mp rr334.2
def rr336 := List.forall_mem_cons.mp rr335.2
def rr337 := List.forall_mem_cons.mp rr336.2
theorem lk337 : (Jvm.Cond.classLink "YawnRoute" (73 : Nat) "YawnRoute$Spreading") ∈ lw_gd := mem_gd rr337.1 rfl
def rr338 := List.forall_mem_cons.mp rr337.2
theorem lk338 : (Jvm.Cond.instantiable "YawnRoute$Spreading" (6 : Nat)) ∈ lw_gd := mem_gd rr338.1 rfl
def rr339 := List.forall_mem_cons.mp rr338.2
theorem lk339 : (Jvm.Cond.methodLink "YawnRoute" (75 : Nat) ({ cls := "YawnRoute$Spreading", name := "<init>", desc := "(LYawnRoute$Net;LYawnRoute$State;LYawnRoute$Passings;)V" } : Jvm.MethodName)) ∈ lw_gd := mem_gd rr339.1 rfl
def rr340 := List.forall_mem_cons.mp rr339.2
theorem lk340 : (Jvm.Cond.instanceMethod ({ cls := "YawnRoute$Spreading", name := "<init>", desc := "(LYawnRoute$Net;LYawnRoute$State;LYawnRoute$Passings;)V" } : Jvm.MethodName)) ∈ lw_gd := mem_gd rr340.1 rfl
def rr341 := List.forall_mem_cons.mp rr340.2
theorem lk341 : (Jvm.Cond.code ({ cls := "YawnRoute$Spreading", name := "<init>", desc := "(LYawnRoute$Net;LYawnRoute$State;LYawnRoute$Passings;)V" } : Jvm.MethodName) prog_8_method_1_code (4 : Nat) (Option.none : Option Jvm.ClassFile.FieldType)) ∈ lw_gd := mem_gd rr341.1 rfl
def rr342 := List.forall_mem_cons.mp rr341.2
theorem lk342 : (Jvm.Cond.methodLink "YawnRoute$Spreading" (3 : Nat) ({ cls := "java/lang/Object", name := "<init>", desc := "()V" } : Jvm.MethodName)) ∈ lw_gd := mem_gd rr342.1 rfl
def rr343 := List.forall_mem_cons.mp rr342.2
theorem lk343 : (Jvm.Cond.fieldLink "YawnRoute$Spreading" (21 : Nat) "YawnRoute$Spreading" "net" "LYawnRoute$Net;") ∈ lw_gd := mem_gd rr343.1 rfl
def rr344 := List.forall_mem_cons.mp rr343.2
theorem lk344 : (Jvm.Cond.fieldLink "YawnRoute$Spreading" (25 : Nat) "YawnRoute$Spreading" "state" "LYawnRoute$State;") ∈ lw_gd := mem_gd rr344.1 rfl
def rr345 := List.forall_mem_cons.mp rr344.2
theorem lk345 : (Jvm.Cond.fieldLink "YawnRoute$Spreading" (29 : Nat) "YawnRoute$Spreading" "passings" "LYawnRoute$Passings;") ∈ lw_gd := mem_gd rr345.1 rfl
def rr346 := List.forall_mem_cons.mp rr345.2
theorem lk346 : (Jvm.Cond.fieldLink "YawnRoute$Spreading" (9 : Nat) "YawnRoute$Spreading" "sizes" "[I") ∈ lw_gd := mem_gd rr346.1 rfl
def rr347 := List.forall_mem_cons.mp rr346.2
theorem lk347 : (Jvm.Cond.fieldLink "YawnRoute$Spreading" (15 : Nat) "YawnRoute$Spreading" "others" "[I") ∈ lw_gd := mem_gd rr347.1 rfl
def rr348 := List.forall_mem_cons.mp rr347.2
theorem lk348 : (Jvm.Cond.fieldLink "YawnRoute$Spreading" (18 : Nat) "YawnRoute$Spreading" "ahead" "[I") ∈ lw_gd := mem_gd rr348.1 rfl
def rr349 := List.forall_mem_cons.mp rr348.2
def rr350 := List.forall_mem_cons.mp rr349.2
def rr351 := List.forall_mem_cons.mp rr350.2
def rr352 := List.forall_mem_cons.mp rr351.2
def rr353 := List.forall_mem_cons.mp rr352.2
def rr354 := List.forall_mem_cons.mp rr353.2
def rr355 := List.forall_mem_cons.mp rr354.2
def rr356 := List.forall_mem_cons.mp rr355.2
def rr357 := List.forall_mem_cons.mp rr356.2
def rr358 := List.forall_mem_cons.mp rr357.2
def rr359 := List.forall_mem_cons.mp rr358.2
def rr360 := List.forall_mem_cons.mp rr359.2
def rr361 := List.forall_mem_cons.mp rr360.2
def rr362 := List.forall_mem_cons.mp rr361.2
theorem lk362 : (Jvm.Cond.classLink "YawnRoute" (80 : Nat) "YawnRoute$Steps") ∈ lw_gd := mem_gd rr362.1 rfl
def rr363 := List.forall_mem_cons.mp rr362.2
theorem lk363 : (Jvm.Cond.instantiable "YawnRoute$Steps" (6 : Nat)) ∈ lw_gd := mem_gd rr363.1 rfl
def rr364 := List.forall_mem_cons.mp rr363.2
theorem lk364 : (Jvm.Cond.methodLink "YawnRoute" (82 : Nat) ({ cls := "YawnRoute$Steps", name := "<init>", desc := "(LYawnRoute$Net;LYawnRoute$State;LYawnRoute$Passings;)V" } : Jvm.MethodName)) ∈ lw_gd := mem_gd rr364.1 rfl
def rr365 := List.forall_mem_cons.mp rr364.2
theorem lk365 : (Jvm.Cond.instanceMethod ({ cls := "YawnRoute$Steps", name := "<init>", desc := "(LYawnRoute$Net;LYawnRoute$State;LYawnRoute$Passings;)V" } : Jvm.MethodName)) ∈ lw_gd := mem_gd rr365.1 rfl
def rr366 := List.forall_mem_cons.mp rr365.2
theorem lk366 : (Jvm.Cond.code ({ cls := "YawnRoute$Steps", name := "<init>", desc := "(LYawnRoute$Net;LYawnRoute$State;LYawnRoute$Passings;)V" } : Jvm.MethodName) prog_10_method_1_code (4 : Nat) (Option.none : Option Jvm.ClassFile.FieldType)) ∈ lw_gd := mem_gd rr366.1 rfl
def rr367 := List.forall_mem_cons.mp rr366.2
theorem lk367 : (Jvm.Cond.methodLink "YawnRoute$Steps" (3 : Nat) ({ cls := "java/lang/Object", name := "<init>", desc := "()V" } : Jvm.MethodName)) ∈ lw_gd := mem_gd rr367.1 rfl
def rr368 := List.forall_mem_cons.mp rr367.2
theorem lk368 : (Jvm.Cond.classLink "YawnRoute$Steps" (9 : Nat) "[[I") ∈ lw_gd := mem_gd rr368.1 rfl
def rr369 := List.forall_mem_cons.mp rr368.2
theorem lk369 : (Jvm.Cond.arrayOver (Jvm.ClassFile.FieldType.array Jvm.ClassFile.FieldType.int)) ∈ lw_tbl := rr369.1
def rr370 := List.forall_mem_cons.mp rr369.2
theorem lk370 : (Jvm.Cond.fieldLink "YawnRoute$Steps" (22 : Nat) "YawnRoute$Steps" "net" "LYawnRoute$Net;") ∈ lw_gd := mem_gd rr370.1 rfl
def rr371 := List.forall_mem_cons.mp rr370.2
theorem lk371 : (Jvm.Cond.fieldLink "YawnRoute$Steps" (26 : Nat) "YawnRoute$Steps" "state" "LYawnRoute$State;") ∈ lw_gd := mem_gd rr371.1 rfl
def rr372 := List.forall_mem_cons.mp rr371.2
theorem lk372 : (Jvm.Cond.fieldLink "YawnRoute$Steps" (30 : Nat) "YawnRoute$Steps" "passings" "LYawnRoute$Passings;") ∈ lw_gd := mem_gd rr372.1 rfl
def rr373 := List.forall_mem_cons.mp rr372.2
theorem lk373 : (Jvm.Cond.fieldLink "YawnRoute$Steps" (11 : Nat) "YawnRoute$Steps" "routes" "[[I") ∈ lw_gd := mem_gd rr373.1 rfl
def rr374 := List.forall_mem_cons.mp rr373.2
theorem lk374 : (Jvm.Cond.fieldLink "YawnRoute$Steps" (16 : Nat) "YawnRoute$Steps" "sure" "[[I") ∈ lw_gd := mem_gd rr374.1 rfl
def rr375 := List.forall_mem_cons.mp rr374.2
theorem lk375 : (Jvm.Cond.fieldLink "YawnRoute$Steps" (19 : Nat) "YawnRoute$Steps" "share" "[[I") ∈ lw_gd := mem_gd rr375.1 rfl
def rr376 := List.forall_mem_cons.mp rr375.2
def rr377 := List.forall_mem_cons.mp rr376.2
def rr378 := List.forall_mem_cons.mp rr377.2
def rr379 := List.forall_mem_cons.mp rr378.2
def rr380 := List.forall_mem_cons.mp rr379.2
def rr381 := List.forall_mem_cons.mp rr380.2
def rr382 := List.forall_mem_cons.mp rr381.2
def rr383 := List.forall_mem_cons.mp rr382.2
def rr384 := List.forall_mem_cons.mp rr383.2
def rr385 := List.forall_mem_cons.mp rr384.2
def rr386 := List.forall_mem_cons.mp rr385.2
def rr387 := List.forall_mem_cons.mp rr386.2
def rr388 := List.forall_mem_cons.mp rr387.2
def rr389 := List.forall_mem_cons.mp rr388.2
theorem lk389 : (Jvm.Cond.arrayOver (Jvm.ClassFile.FieldType.object "YawnRoute$Net")) ∈ lw_tbl := rr389.1
def rr390 := List.forall_mem_cons.mp rr389.2
theorem lk390 : (Jvm.Cond.fieldLink "YawnRoute" (12 : Nat) "YawnRoute" "tape" "LYawnRoute$Tape;") ∈ lw_gd := mem_gd rr390.1 rfl
def rr391 := List.forall_mem_cons.mp rr390.2
theorem lk391 : (Jvm.Cond.fieldLink "YawnRoute" (21 : Nat) "YawnRoute" "reader" "LYawnRoute$NetReader;") ∈ lw_gd := mem_gd rr391.1 rfl
def rr392 := List.forall_mem_cons.mp rr391.2
theorem lk392 : (Jvm.Cond.fieldLink "YawnRoute" (28 : Nat) "YawnRoute" "net" "LYawnRoute$Net;") ∈ lw_gd := mem_gd rr392.1 rfl
def rr393 := List.forall_mem_cons.mp rr392.2
theorem lk393 : (Jvm.Cond.fieldLink "YawnRoute" (35 : Nat) "YawnRoute" "state" "LYawnRoute$State;") ∈ lw_gd := mem_gd rr393.1 rfl
def rr394 := List.forall_mem_cons.mp rr393.2
theorem lk394 : (Jvm.Cond.fieldLink "YawnRoute" (42 : Nat) "YawnRoute" "trays" "LYawnRoute$Trays;") ∈ lw_gd := mem_gd rr394.1 rfl
def rr395 := List.forall_mem_cons.mp rr394.2
theorem lk395 : (Jvm.Cond.fieldLink "YawnRoute" (51 : Nat) "YawnRoute" "deeds" "LYawnRoute$Deeds;") ∈ lw_gd := mem_gd rr395.1 rfl
def rr396 := List.forall_mem_cons.mp rr395.2
theorem lk396 : (Jvm.Cond.fieldLink "YawnRoute" (60 : Nat) "YawnRoute" "passings" "LYawnRoute$Passings;") ∈ lw_gd := mem_gd rr396.1 rfl
def rr397 := List.forall_mem_cons.mp rr396.2
theorem lk397 : (Jvm.Cond.fieldLink "YawnRoute" (69 : Nat) "YawnRoute" "routes" "LYawnRoute$Routes;") ∈ lw_gd := mem_gd rr397.1 rfl
def rr398 := List.forall_mem_cons.mp rr397.2
theorem lk398 : (Jvm.Cond.fieldLink "YawnRoute" (76 : Nat) "YawnRoute" "spreading" "LYawnRoute$Spreading;") ∈ lw_gd := mem_gd rr398.1 rfl
def rr399 := List.forall_mem_cons.mp rr398.2
theorem lk399 : (Jvm.Cond.fieldLink "YawnRoute" (83 : Nat) "YawnRoute" "steps" "LYawnRoute$Steps;") ∈ lw_gd := mem_gd rr399.1 rfl
def rr400 := List.forall_mem_cons.mp rr399.2
theorem lk400 : (Jvm.Cond.fieldLink "YawnRoute" (87 : Nat) "YawnRoute" "imageNets" "[LYawnRoute$Net;") ∈ lw_gd := mem_gd rr400.1 rfl
def rr401 := List.forall_mem_cons.mp rr400.2
theorem lk401 : (Jvm.Cond.fieldLink "YawnRoute" (91 : Nat) "YawnRoute" "imageStates" "[LYawnRoute$State;") ∈ lw_gd := mem_gd rr401.1 rfl
def rr402 := List.forall_mem_cons.mp rr401.2
theorem lk402 : (Jvm.Cond.fieldLink "YawnRoute" (95 : Nat) "YawnRoute" "imageMade" "[Z") ∈ lw_gd := mem_gd rr402.1 rfl
def rr403 := List.forall_mem_cons.mp rr402.2
def rr404 := List.forall_mem_cons.mp rr403.2
def rr405 := List.forall_mem_cons.mp rr404.2
def rr406 := List.forall_mem_cons.mp rr405.2
def rr407 := List.forall_mem_cons.mp rr406.2
def rr408 := List.forall_mem_cons.mp rr407.2
def rr409 := List.forall_mem_cons.mp rr408.2
def rr410 := List.forall_mem_cons.mp rr409.2
def rr411 := List.forall_mem_cons.mp rr410.2
def rr412 := List.forall_mem_cons.mp rr411.2
def rr413 := List.forall_mem_cons.mp rr412.2
def rr414 := List.forall_mem_cons.mp rr413.2
def rr415 := List.forall_mem_cons.mp rr414.2
def rr416 := List.forall_mem_cons.mp rr415.2
def rr417 := List.forall_mem_cons.mp rr416.2
def rr418 := List.forall_mem_cons.mp rr417.2
def rr419 := List.forall_mem_cons.mp rr418.2
def rr420 := List.forall_mem_cons.mp rr419.2
def rr421 := List.forall_mem_cons.mp rr420.2
def rr422 := List.forall_mem_cons.mp rr421.2
def rr423 := List.forall_mem_cons.mp rr422.2
def rr424 := List.forall_mem_cons.mp rr423.2
def rr425 := List.forall_mem_cons.mp rr424.2
def rr426 := List.forall_mem_cons.mp rr425.2
def rr427 := List.forall_mem_cons.mp rr426.2
def rr428 := List.forall_mem_cons.mp rr427.2
def rr429 := List.forall_mem_cons.mp rr428.2
def rr430 := List.forall_mem_cons.mp rr429.2
theorem lk430 : (Jvm.Cond.arrayClass Jvm.ClassFile.FieldType.boolean) ∈ lw_gd := mem_gd rr430.1 rfl
def rr431 := List.forall_mem_cons.mp rr430.2
theorem lk431 : (Jvm.Cond.methodLink "YawnRouteLaw" (13 : Nat) ({ cls := "YawnRoute", name := "feed", desc := "(IIIII)I" } : Jvm.MethodName)) ∈ lw_gd := mem_gd rr431.1 rfl
def rr432 := List.forall_mem_cons.mp rr431.2
theorem lk432 : (Jvm.Cond.instanceMethod ({ cls := "YawnRoute", name := "feed", desc := "(IIIII)I" } : Jvm.MethodName)) ∈ lw_gd := mem_gd rr432.1 rfl
def rr433 := List.forall_mem_cons.mp rr432.2
theorem lk433 : (Jvm.Cond.selects "YawnRoute" ({ cls := "YawnRoute", name := "feed", desc := "(IIIII)I" } : Jvm.MethodName) ({ cls := "YawnRoute", name := "feed", desc := "(IIIII)I" } : Jvm.MethodName)) ∈ lw_gd := mem_gd rr433.1 rfl
def rr434 := List.forall_mem_cons.mp rr433.2
theorem lk434 : (Jvm.Cond.code ({ cls := "YawnRoute", name := "feed", desc := "(IIIII)I" } : Jvm.MethodName) prog_1_method_2_code (6 : Nat) (Option.some Jvm.ClassFile.FieldType.int)) ∈ lw_gd := mem_gd rr434.1 rfl
def rr435 := List.forall_mem_cons.mp rr434.2
theorem lk435 : (Jvm.Cond.methodLink "YawnRoute" (103 : Nat) ({ cls := "YawnRoute$Tape", name := "addFour", desc := "(I)V" } : Jvm.MethodName)) ∈ lw_gd := mem_gd rr435.1 rfl
def rr436 := List.forall_mem_cons.mp rr435.2
theorem lk436 : (Jvm.Cond.instanceMethod ({ cls := "YawnRoute$Tape", name := "addFour", desc := "(I)V" } : Jvm.MethodName)) ∈ lw_gd := mem_gd rr436.1 rfl
def rr437 := List.forall_mem_cons.mp rr436.2
theorem lk437 : (Jvm.Cond.selects "YawnRoute$Tape" ({ cls := "YawnRoute$Tape", name := "addFour", desc := "(I)V" } : Jvm.MethodName) ({ cls := "YawnRoute$Tape", name := "addFour", desc := "(I)V" } : Jvm.MethodName)) ∈ lw_gd := mem_gd rr437.1 rfl
def rr438 := List.forall_mem_cons.mp rr437.2
theorem lk438 : (Jvm.Cond.code ({ cls := "YawnRoute$Tape", name := "addFour", desc := "(I)V" } : Jvm.MethodName) prog_11_method_2_code (3 : Nat) (Option.none : Option Jvm.ClassFile.FieldType)) ∈ lw_gd := mem_gd rr438.1 rfl
def rr439 := List.forall_mem_cons.mp rr438.2
theorem lk439 : (Jvm.Cond.methodLink "YawnRouteLaw" (18 : Nat) ({ cls := "YawnRoute", name := "net", desc := "(I)I" } : Jvm.MethodName)) ∈ lw_gd := mem_gd rr439.1 rfl
def rr440 := List.forall_mem_cons.mp rr439.2
theorem lk440 : (Jvm.Cond.instanceMethod ({ cls := "YawnRoute", name := "net", desc := "(I)I" } : Jvm.MethodName)) ∈ lw_gd := mem_gd rr440.1 rfl
def rr441 := List.forall_mem_cons.mp rr440.2
theorem lk441 : (Jvm.Cond.selects "YawnRoute" ({ cls := "YawnRoute", name := "net", desc := "(I)I" } : Jvm.MethodName) ({ cls := "YawnRoute", name := "net", desc := "(I)I" } : Jvm.MethodName)) ∈ lw_gd := mem_gd rr441.1 rfl
def rr442 := List.forall_mem_cons.mp rr441.2
theorem lk442 : (Jvm.Cond.code ({ cls := "YawnRoute", name := "net", desc := "(I)I" } : Jvm.MethodName) prog_1_method_3_code (3 : Nat) (Option.some Jvm.ClassFile.FieldType.int)) ∈ lw_gd := mem_gd rr442.1 rfl
def rr443 := List.forall_mem_cons.mp rr442.2
theorem lk443 : (Jvm.Cond.methodLink "YawnRoute" (107 : Nat) ({ cls := "YawnRoute$NetReader", name := "read", desc := "(I)Z" } : Jvm.MethodName)) ∈ lw_gd := mem_gd rr443.1 rfl
def rr444 := List.forall_mem_cons.mp rr443.2
theorem lk444 : (Jvm.Cond.instanceMethod ({ cls := "YawnRoute$NetReader", name := "read", desc := "(I)Z" } : Jvm.MethodName)) ∈ lw_gd := mem_gd rr444.1 rfl
def rr445 := List.forall_mem_cons.mp rr444.2
theorem lk445 : (Jvm.Cond.selects "YawnRoute$NetReader" ({ cls := "YawnRoute$NetReader", name := "read", desc := "(I)Z" } : Jvm.MethodName) ({ cls := "YawnRoute$NetReader", name := "read", desc := "(I)Z" } : Jvm.MethodName)) ∈ lw_gd := mem_gd rr445.1 rfl
def rr446 := List.forall_mem_cons.mp rr445.2
theorem lk446 : (Jvm.Cond.code ({ cls := "YawnRoute$NetReader", name := "read", desc := "(I)Z" } : Jvm.MethodName) prog_5_method_2_code (3 : Nat) (Option.some Jvm.ClassFile.FieldType.boolean)) ∈ lw_gd := mem_gd rr446.1 rfl
def rr447 := List.forall_mem_cons.mp rr446.2
theorem lk447 : (Jvm.Cond.methodLink "YawnRoute$NetReader" (38 : Nat) ({ cls := "YawnRoute$Net", name := "clear", desc := "()V" } : Jvm.MethodName)) ∈ lw_gd := mem_gd rr447.1 rfl
def rr448 := List.forall_mem_cons.mp rr447.2
theorem lk448 : (Jvm.Cond.instanceMethod ({ cls := "YawnRoute$Net", name := "clear", desc := "()V" } : Jvm.MethodName)) ∈ lw_gd := mem_gd rr448.1 rfl
def rr449 := List.forall_mem_cons.mp rr448.2
theorem lk449 : (Jvm.Cond.selects "YawnRoute$Net" ({ cls := "YawnRoute$Net", name := "clear", desc := "()V" } : Jvm.MethodName) ({ cls := "YawnRoute$Net", name := "clear", desc := "()V" } : Jvm.MethodName)) ∈ lw_gd := mem_gd rr449.1 rfl
def rr450 := List.forall_mem_cons.mp rr449.2
theorem lk450 : (Jvm.Cond.code ({ cls := "YawnRoute$Net", name := "clear", desc := "()V" } : Jvm.MethodName) prog_4_method_2_code (1 : Nat) (Option.none : Option Jvm.ClassFile.FieldType)) ∈ lw_gd := mem_gd rr450.1 rfl
def rr451 := List.forall_mem_cons.mp rr450.2
theorem lk451 : (Jvm.Cond.methodLink "YawnRoute$Net" (52 : Nat) ({ cls := "java/util/Arrays", name := "fill", desc := "([II)V" } : Jvm.MethodName)) ∈ lw_gd := mem_gd rr451.1 rfl
def rr452 := List.forall_mem_cons.mp rr451.2
theorem lk452 : (Jvm.Cond.static ({ cls := "java/util/Arrays", name := "fill", desc := "([II)V" } : Jvm.MethodName)) ∈ lw_gd := mem_gd rr452.1 rfl
def rr453 := List.forall_mem_cons.mp rr452.2
theorem lk453 : (Jvm.Cond.code ({ cls := "java/util/Arrays", name := "fill", desc := "([II)V" } : Jvm.MethodName) prog_22_method_103_code (4 : Nat) (Option.none : Option Jvm.ClassFile.FieldType)) ∈ lw_gd := mem_gd rr453.1 rfl
def rr454 := List.forall_mem_cons.mp rr453.2
theorem lk454 : (Jvm.Cond.methodLink "YawnRoute$NetReader" (41 : Nat) ({ cls := "YawnRoute$State", name := "clear", desc := "()V" } : Jvm.MethodName)) ∈ lw_gd := mem_gd rr454.1 rfl
def rr455 := List.forall_mem_cons.mp rr454.2
theorem lk455 : (Jvm.Cond.instanceMethod ({ cls := "YawnRoute$State", name := "clear", desc := "()V" } : Jvm.MethodName)) ∈ lw_gd := mem_gd rr455.1 rfl
def rr456 := List.forall_mem_cons.mp rr455.2
theorem lk456 : (Jvm.Cond.selects "YawnRoute$State" ({ cls := "YawnRoute$State", name := "clear", desc := "()V" } : Jvm.MethodName) ({ cls := "YawnRoute$State", name := "clear", desc := "()V" } : Jvm.MethodName)) ∈ lw_gd := mem_gd rr456.1 rfl
def rr457 := List.forall_mem_cons.mp rr456.2
theorem lk457 : (Jvm.Cond.code ({ cls := "YawnRoute$State", name := "clear", desc := "()V" } : Jvm.MethodName) prog_9_method_2_code (1 : Nat) (Option.none : Option Jvm.ClassFile.FieldType)) ∈ lw_gd := mem_gd rr457.1 rfl
def rr458 := List.forall_mem_cons.mp rr457.2
theorem lk458 : (Jvm.Cond.methodLink "YawnRoute$State" (28 : Nat) ({ cls := "java/util/Arrays", name := "fill", desc := "([II)V" } : Jvm.MethodName)) ∈ lw_gd := mem_gd rr458.1 rfl
def rr459 := List.forall_mem_cons.mp rr458.2
theorem lk459 : (Jvm.Cond.methodLink "YawnRoute$NetReader" (42 : Nat) ({ cls := "YawnRoute$Tape", name := "open", desc := "(I)V" } : Jvm.MethodName)) ∈ lw_gd := mem_gd rr459.1 rfl
def rr460 := List.forall_mem_cons.mp rr459.2
theorem lk460 : (Jvm.Cond.instanceMethod ({ cls := "YawnRoute$Tape", name := "open", desc := "(I)V" } : Jvm.MethodName)) ∈ lw_gd := mem_gd rr460.1 rfl
def rr461 := List.forall_mem_cons.mp rr460.2
theorem lk461 : (Jvm.Cond.selects "YawnRoute$Tape" ({ cls := "YawnRoute$Tape", name := "open", desc := "(I)V" } : Jvm.MethodName) ({ cls := "YawnRoute$Tape", name := "open", desc := "(I)V" } : Jvm.MethodName)) ∈ lw_gd := mem_gd rr461.1 rfl
def rr462 := List.forall_mem_cons.mp rr461.2
theorem lk462 : (Jvm.Cond.code ({ cls := "YawnRoute$Tape", name := "open", desc := "(I)V" } : Jvm.MethodName) prog_11_method_3_code (2 : Nat) (Option.none : Option Jvm.ClassFile.FieldType)) ∈ lw_gd := mem_gd rr462.1 rfl
def rr463 := List.forall_mem_cons.mp rr462.2
theorem lk463 : (Jvm.Cond.methodLink "YawnRoute$Tape" (22 : Nat) ({ cls := "java/lang/Math", name := "min", desc := "(II)I" } : Jvm.MethodName)) ∈ lw_gd := mem_gd rr463.1 rfl
def rr464 := List.forall_mem_cons.mp rr463.2
theorem lk464 : (Jvm.Cond.static ({ cls := "java/lang/Math", name := "min", desc := "(II)I" } : Jvm.MethodName)) ∈ lw_gd := mem_gd rr464.1 rfl
def rr465 := List.forall_mem_cons.mp rr464.2
theorem lk465 : (Jvm.Cond.code ({ cls := "java/lang/Math", name := "min", desc := "(II)I" } : Jvm.MethodName) prog_17_method_69_code (2 : Nat) (Option.some Jvm.ClassFile.FieldType.int)) ∈ lw_gd := mem_gd rr465.1 rfl
def rr466 := List.forall_mem_cons.mp rr465.2
theorem lk466 : (Jvm.Cond.methodLink "YawnRoute$Tape" (37 : Nat) ({ cls := "YawnRoute$Tape", name := "next", desc := "()V" } : Jvm.MethodName)) ∈ lw_gd := mem_gd rr466.1 rfl
def rr467 := List.forall_mem_cons.mp rr466.2
theorem lk467 : (Jvm.Cond.instanceMethod ({ cls := "YawnRoute$Tape", name := "next", desc := "()V" } : Jvm.MethodName)) ∈ lw_gd := mem_gd rr467.1 rfl
def rr468 := List.forall_mem_cons.mp rr467.2
theorem lk468 : (Jvm.Cond.selects "YawnRoute$Tape" ({ cls := "YawnRoute$Tape", name := "next", desc := "()V" } : Jvm.MethodName) ({ cls := "YawnRoute$Tape", name := "next", desc := "()V" } : Jvm.MethodName)) ∈ lw_gd := mem_gd rr468.1 rfl
def rr469 := List.forall_mem_cons.mp rr468.2
theorem lk469 : (Jvm.Cond.code ({ cls := "YawnRoute$Tape", name := "next", desc := "()V" } : Jvm.MethodName) prog_11_method_5_code (2 : Nat) (Option.none : Option Jvm.ClassFile.FieldType)) ∈ lw_gd := mem_gd rr469.1 rfl
def rr470 := List.forall_mem_cons.mp rr469.2
theorem lk470 : (Jvm.Cond.methodLink "YawnRoute$Tape" (46 : Nat) ({ cls := "YawnRoute$Tape", name := "byteAt", desc := "(I)I" } : Jvm.MethodName)) ∈ lw_gd := mem_gd rr470.1 rfl
def rr471 := List.forall_mem_cons.mp rr470.2
def rr472 := List.forall_mem_cons.mp rr471.2
theorem lk472 : (Jvm.Cond.instanceMethod ({ cls := "YawnRoute$Tape", name := "byteAt", desc := "(I)I" } : Jvm.MethodName)) ∈ lw_gd := mem_gd rr472.1 rfl
def rr473 := List.forall_mem_cons.mp rr472.2
theorem lk473 : (Jvm.Cond.code ({ cls := "YawnRoute$Tape", name := "byteAt", desc := "(I)I" } : Jvm.MethodName) prog_11_method_10_code (2 : Nat) (Option.some Jvm.ClassFile.FieldType.int)) ∈ lw_gd := mem_gd rr473.1 rfl
def rr474 := List.forall_mem_cons.mp rr473.2
theorem lk474 : (Jvm.Cond.methodLink "YawnRoute$Tape" (50 : Nat) ({ cls := "YawnRoute$Tape", name := "isBlank", desc := "(I)Z" } : Jvm.MethodName)) ∈ lw_gd := mem_gd rr474.1 rfl
def rr475 := List.forall_mem_cons.mp rr474.2
theorem lk475 : (Jvm.Cond.static ({ cls := "YawnRoute$Tape", name := "isBlank", desc := "(I)Z" } : Jvm.MethodName)) ∈ lw_gd := mem_gd rr475.1 rfl
def rr476 := List.forall_mem_cons.mp rr475.2
theorem lk476 : (Jvm.Cond.code ({ cls := "YawnRoute$Tape", name := "isBlank", desc := "(I)Z" } : Jvm.MethodName) prog_11_method_11_code (1 : Nat) (Option.some Jvm.ClassFile.FieldType.boolean)) ∈ lw_gd := mem_gd rr476.1 rfl
def rr477 := List.forall_mem_cons.mp rr476.2
theorem lk477 : (Jvm.Cond.methodLink "YawnRoute$Tape" (54 : Nat) ({ cls := "YawnRoute$Tape", name := "isDigit", desc := "(I)Z" } : Jvm.MethodName)) ∈ lw_gd := mem_gd rr477.1 rfl
def rr478 := List.forall_mem_cons.mp rr477.2
theorem lk478 : (Jvm.Cond.static ({ cls := "YawnRoute$Tape", name := "isDigit", desc := "(I)Z" } : Jvm.MethodName)) ∈ lw_gd := mem_gd rr478.1 rfl
def rr479 := List.forall_mem_cons.mp rr478.2
theorem lk479 : (Jvm.Cond.code ({ cls := "YawnRoute$Tape", name := "isDigit", desc := "(I)Z" } : Jvm.MethodName) prog_11_method_12_code (1 : Nat) (Option.some Jvm.ClassFile.FieldType.boolean)) ∈ lw_gd := mem_gd rr479.1 rfl
theorem tq2 : ∀ w ∈ tables_1_3, w ∈ lw_tbl := fun w h => List.mem_append_right _ (List.mem_append_right _ (List.mem_append_right _ (List.mem_append_left _ h)))
def rr480 := List.forall_mem_cons.mp tq2
theorem lk480 : (Jvm.Cond.methodLink "YawnRoute$Tape" (57 : Nat) ({ cls := "YawnRoute$Tape", name := "readNumber", desc := "()V" } : Jvm.MethodName)) ∈ lw_gd := mem_gd rr480.1 rfl
def rr481 := List.forall_mem_cons.mp rr480.2
def rr482 := List.forall_mem_cons.mp rr481.2
theorem lk482 : (Jvm.Cond.instanceMethod ({ cls := "YawnRoute$Tape", name := "readNumber", desc := "()V" } : Jvm.MethodName)) ∈ lw_gd := mem_gd rr482.1 rfl
def rr483 := List.forall_mem_cons.mp rr482.2
theorem lk483 : (Jvm.Cond.code ({ cls := "YawnRoute$Tape", name := "readNumber", desc := "()V" } : Jvm.MethodName) prog_11_method_8_code (2 : Nat) (Option.none : Option Jvm.ClassFile.FieldType)) ∈ lw_gd := mem_gd rr483.1 rfl
def rr484 := List.forall_mem_cons.mp rr483.2
theorem lk484 : (Jvm.Cond.methodLink "YawnRoute$Tape" (73 : Nat) ({ cls := "YawnRoute$Tape", name := "fail", desc := "(I)V" } : Jvm.MethodName)) ∈ lw_gd := mem_gd rr484.1 rfl
def rr485 := List.forall_mem_cons.mp rr484.2
theorem lk485 : (Jvm.Cond.instanceMethod ({ cls := "YawnRoute$Tape", name := "fail", desc := "(I)V" } : Jvm.MethodName)) ∈ lw_gd := mem_gd rr485.1 rfl
def rr486 := List.forall_mem_cons.mp rr485.2
theorem lk486 : (Jvm.Cond.selects "YawnRoute$Tape" ({ cls := "YawnRoute$Tape", name := "fail", desc := "(I)V" } : Jvm.MethodName) ({ cls := "YawnRoute$Tape", name := "fail", desc := "(I)V" } : Jvm.MethodName)) ∈ lw_gd := mem_gd rr486.1 rfl
def rr487 := List.forall_mem_cons.mp rr486.2
theorem lk487 : (Jvm.Cond.code ({ cls := "YawnRoute$Tape", name := "fail", desc := "(I)V" } : Jvm.MethodName) prog_11_method_4_code (2 : Nat) (Option.none : Option Jvm.ClassFile.FieldType)) ∈ lw_gd := mem_gd rr487.1 rfl
def rr488 := List.forall_mem_cons.mp rr487.2
theorem lk488 : (Jvm.Cond.methodLink "YawnRoute$Tape" (60 : Nat) ({ cls := "YawnRoute$Tape", name := "isLetter", desc := "(I)Z" } : Jvm.MethodName)) ∈ lw_gd := mem_gd rr488.1 rfl
def rr489 := List.forall_mem_cons.mp rr488.2
theorem lk489 : (Jvm.Cond.static ({ cls := "YawnRoute$Tape", name := "isLetter", desc := "(I)Z" } : Jvm.MethodName)) ∈ lw_gd := mem_gd rr489.1 rfl
def rr490 := List.forall_mem_cons.mp rr489.2
theorem lk490 : (Jvm.Cond.code ({ cls := "YawnRoute$Tape", name := "isLetter", desc := "(I)Z" } : Jvm.MethodName) prog_11_method_13_code (1 : Nat) (Option.some Jvm.ClassFile.FieldType.boolean)) ∈ lw_gd := mem_gd rr490.1 rfl
def rr491 := List.forall_mem_cons.mp rr490.2
theorem lk491 : (Jvm.Cond.methodLink "YawnRoute$Tape" (63 : Nat) ({ cls := "YawnRoute$Tape", name := "readWord", desc := "()V" } : Jvm.MethodName)) ∈ lw_gd := mem_gd rr491.1 rfl
def rr492 := List.forall_mem_cons.mp rr491.2
def rr493 := List.forall_mem_cons.mp rr492.2
theorem lk493 : (Jvm.Cond.instanceMethod ({ cls := "YawnRoute$Tape", name := "readWord", desc := "()V" } : Jvm.MethodName)) ∈ lw_gd := mem_gd rr493.1 rfl
def rr494 := List.forall_mem_cons.mp rr493.2
theorem lk494 : (Jvm.Cond.code ({ cls := "YawnRoute$Tape", name := "readWord", desc := "()V" } : Jvm.MethodName) prog_11_method_9_code (5 : Nat) (Option.none : Option Jvm.ClassFile.FieldType)) ∈ lw_gd := mem_gd rr494.1 rfl
def rr495 := List.forall_mem_cons.mp rr494.2
def rr496 := List.forall_mem_cons.mp rr495.2
theorem lk496 : (Jvm.Cond.methodLink "YawnRoute$Tape" (82 : Nat) ({ cls := "java/lang/String", name := "length", desc := "()I" } : Jvm.MethodName)) ∈ lw_gd := mem_gd rr496.1 rfl
def rr497 := List.forall_mem_cons.mp rr496.2
theorem lk497 : (Jvm.Cond.instanceMethod ({ cls := "java/lang/String", name := "length", desc := "()I" } : Jvm.MethodName)) ∈ lw_gd := mem_gd rr497.1 rfl
def rr498 := List.forall_mem_cons.mp rr497.2
theorem lk498 : (Jvm.Cond.selects "java/lang/String" ({ cls := "java/lang/String", name := "length", desc := "()I" } : Jvm.MethodName) ({ cls := "java/lang/String", name := "length", desc := "()I" } : Jvm.MethodName)) ∈ lw_gd := mem_gd rr498.1 rfl
def rr499 := List.forall_mem_cons.mp rr498.2
theorem lk499 : (Jvm.Cond.code ({ cls := "java/lang/String", name := "length", desc := "()I" } : Jvm.MethodName) prog_18_method_54_code (1 : Nat) (Option.some Jvm.ClassFile.FieldType.int)) ∈ lw_gd := mem_gd rr499.1 rfl
def rr500 := List.forall_mem_cons.mp rr499.2
theorem lk500 : (Jvm.Cond.methodLink "java/lang/String" (335 : Nat) ({ cls := "java/lang/String", name := "coder", desc := "()B" } : Jvm.MethodName)) ∈ lw_gd := mem_gd rr500.1 rfl
def rr501 := List.forall_mem_cons.mp rr500.2
theorem lk501 : (Jvm.Cond.instanceMethod ({ cls := "java/lang/String", name := "coder", desc := "()B" } : Jvm.MethodName)) ∈ lw_gd := mem_gd rr501.1 rfl
def rr502 := List.forall_mem_cons.mp rr501.2
theorem lk502 : (Jvm.Cond.selects "java/lang/String" ({ cls := "java/lang/String", name := "coder", desc := "()B" } : Jvm.MethodName) ({ cls := "java/lang/String", name := "coder", desc := "()B" } : Jvm.MethodName)) ∈ lw_gd := mem_gd rr502.1 rfl
def rr503 := List.forall_mem_cons.mp rr502.2
theorem lk503 : (Jvm.Cond.code ({ cls := "java/lang/String", name := "coder", desc := "()B" } : Jvm.MethodName) prog_18_method_152_code (1 : Nat) (Option.some Jvm.ClassFile.FieldType.byte)) ∈ lw_gd := mem_gd rr503.1 rfl
def rr504 := List.forall_mem_cons.mp rr503.2
theorem lk504 : (Jvm.Cond.fieldLink "java/lang/String" (38 : Nat) "java/lang/String" "COMPACT_STRINGS" "Z") ∈ lw_gd := mem_gd rr504.1 rfl
def rr505 := List.forall_mem_cons.mp rr504.2
def rr506 := List.forall_mem_cons.mp rr505.2
theorem lk506 : (Jvm.Cond.methodLink "YawnRoute$Tape" (86 : Nat) ({ cls := "java/lang/String", name := "charAt", desc := "(I)C" } : Jvm.MethodName)) ∈ lw_gd := mem_gd rr506.1 rfl
def rr507 := List.forall_mem_cons.mp rr506.2
theorem lk507 : (Jvm.Cond.instanceMethod ({ cls := "java/lang/String", name := "charAt", desc := "(I)C" } : Jvm.MethodName)) ∈ lw_gd := mem_gd rr507.1 rfl
def rr508 := List.forall_mem_cons.mp rr507.2
theorem lk508 : (Jvm.Cond.selects "java/lang/String" ({ cls := "java/lang/String", name := "charAt", desc := "(I)C" } : Jvm.MethodName) ({ cls := "java/lang/String", name := "charAt", desc := "(I)C" } : Jvm.MethodName)) ∈ lw_gd := mem_gd rr508.1 rfl
def rr509 := List.forall_mem_cons.mp rr508.2
theorem lk509 : (Jvm.Cond.code ({ cls := "java/lang/String", name := "charAt", desc := "(I)C" } : Jvm.MethodName) prog_18_method_56_code (2 : Nat) (Option.some Jvm.ClassFile.FieldType.char)) ∈ lw_gd := mem_gd rr509.1 rfl
def rr510 := List.forall_mem_cons.mp rr509.2
theorem lk510 : (Jvm.Cond.methodLink "java/lang/String" (492 : Nat) ({ cls := "java/lang/String", name := "isLatin1", desc := "()Z" } : Jvm.MethodName)) ∈ lw_gd := mem_gd rr510.1 rfl
def rr511 := List.forall_mem_cons.mp rr510.2
theorem lk511 : (Jvm.Cond.instanceMethod ({ cls := "java/lang/String", name := "isLatin1", desc := "()Z" } : Jvm.MethodName)) ∈ lw_gd := mem_gd rr511.1 rfl
def rr512 := List.forall_mem_cons.mp rr511.2
theorem lk512 : (Jvm.Cond.selects "java/lang/String" ({ cls := "java/lang/String", name := "isLatin1", desc := "()Z" } : Jvm.MethodName) ({ cls := "java/lang/String", name := "isLatin1", desc := "()Z" } : Jvm.MethodName)) ∈ lw_gd := mem_gd rr512.1 rfl
def rr513 := List.forall_mem_cons.mp rr512.2
theorem lk513 : (Jvm.Cond.code ({ cls := "java/lang/String", name := "isLatin1", desc := "()Z" } : Jvm.MethodName) prog_18_method_154_code (1 : Nat) (Option.some Jvm.ClassFile.FieldType.boolean)) ∈ lw_gd := mem_gd rr513.1 rfl
def rr514 := List.forall_mem_cons.mp rr513.2
theorem lk514 : (Jvm.Cond.methodLink "java/lang/String" (495 : Nat) ({ cls := "java/lang/StringLatin1", name := "charAt", desc := "([BI)C" } : Jvm.MethodName)) ∈ lw_gd := mem_gd rr514.1 rfl
def rr515 := List.forall_mem_cons.mp rr514.2
theorem lk515 : (Jvm.Cond.static ({ cls := "java/lang/StringLatin1", name := "charAt", desc := "([BI)C" } : Jvm.MethodName)) ∈ lw_gd := mem_gd rr515.1 rfl
def rr516 := List.forall_mem_cons.mp rr515.2
theorem lk516 : (Jvm.Cond.code ({ cls := "java/lang/StringLatin1", name := "charAt", desc := "([BI)C" } : Jvm.MethodName) prog_19_method_2_code (2 : Nat) (Option.some Jvm.ClassFile.FieldType.char)) ∈ lw_gd := mem_gd rr516.1 rfl
def rr517 := List.forall_mem_cons.mp rr516.2
theorem lk517 : (Jvm.Cond.methodLink "java/lang/StringLatin1" (9 : Nat) ({ cls := "java/lang/String", name := "checkIndex", desc := "(II)V" } : Jvm.MethodName)) ∈ lw_gd := mem_gd rr517.1 rfl
def rr518 := List.forall_mem_cons.mp rr517.2
theorem lk518 : (Jvm.Cond.static ({ cls := "java/lang/String", name := "checkIndex", desc := "(II)V" } : Jvm.MethodName)) ∈ lw_gd := mem_gd rr518.1 rfl
def rr519 := List.forall_mem_cons.mp rr518.2
theorem lk519 : (Jvm.Cond.code ({ cls := "java/lang/String", name := "checkIndex", desc := "(II)V" } : Jvm.MethodName) prog_18_method_155_code (2 : Nat) (Option.none : Option Jvm.ClassFile.FieldType)) ∈ lw_gd := mem_gd rr519.1 rfl
def rr520 := List.forall_mem_cons.mp rr519.2
theorem lk520 : (Jvm.Cond.fieldLink "java/lang/String" (1053 : Nat) "jdk/internal/util/Preconditions" "SIOOBE_FORMATTER" "Ljava/util/function/BiFunction;") ∈ lw_gd := mem_gd rr520.1 rfl
def rr521 := List.forall_mem_cons.mp rr520.2
def rr522 := List.forall_mem_cons.mp rr521.2
theorem lk522 : (Jvm.Cond.methodLink "java/lang/String" (1059 : Nat) ({ cls := "jdk/internal/util/Preconditions", name := "checkIndex", desc := "(IILjava/util/function/BiFunction;)I" } : Jvm.MethodName)) ∈ lw_gd := mem_gd rr522.1 rfl
def rr523 := List.forall_mem_cons.mp rr522.2
theorem lk523 : (Jvm.Cond.static ({ cls := "jdk/internal/util/Preconditions", name := "checkIndex", desc := "(IILjava/util/function/BiFunction;)I" } : Jvm.MethodName)) ∈ lw_gd := mem_gd rr523.1 rfl
def rr524 := List.forall_mem_cons.mp rr523.2
theorem lk524 : (Jvm.Cond.code ({ cls := "jdk/internal/util/Preconditions", name := "checkIndex", desc := "(IILjava/util/function/BiFunction;)I" } : Jvm.MethodName) prog_23_method_11_code (3 : Nat) (Option.some Jvm.ClassFile.FieldType.int)) ∈ lw_gd := mem_gd rr524.1 rfl
def rr525 := List.forall_mem_cons.mp rr524.2
theorem lk525 : (Jvm.Cond.methodLink "java/lang/String" (498 : Nat) ({ cls := "java/lang/StringUTF16", name := "charAt", desc := "([BI)C" } : Jvm.MethodName)) ∈ lw_gd := mem_gd rr525.1 rfl
def rr526 := List.forall_mem_cons.mp rr525.2
theorem lk526 : (Jvm.Cond.static ({ cls := "java/lang/StringUTF16", name := "charAt", desc := "([BI)C" } : Jvm.MethodName)) ∈ lw_gd := mem_gd rr526.1 rfl
def rr527 := List.forall_mem_cons.mp rr526.2
theorem lk527 : (Jvm.Cond.code ({ cls := "java/lang/StringUTF16", name := "charAt", desc := "([BI)C" } : Jvm.MethodName) prog_20_method_83_code (2 : Nat) (Option.some Jvm.ClassFile.FieldType.char)) ∈ lw_gd := mem_gd rr527.1 rfl
def rr528 := List.forall_mem_cons.mp rr527.2
theorem lk528 : (Jvm.Cond.methodLink "java/lang/StringUTF16" (67 : Nat) ({ cls := "java/lang/StringUTF16", name := "checkIndex", desc := "(I[B)V" } : Jvm.MethodName)) ∈ lw_gd := mem_gd rr528.1 rfl
def rr529 := List.forall_mem_cons.mp rr528.2
theorem lk529 : (Jvm.Cond.static ({ cls := "java/lang/StringUTF16", name := "checkIndex", desc := "(I[B)V" } : Jvm.MethodName)) ∈ lw_gd := mem_gd rr529.1 rfl
def rr530 := List.forall_mem_cons.mp rr529.2
theorem lk530 : (Jvm.Cond.code ({ cls := "java/lang/StringUTF16", name := "checkIndex", desc := "(I[B)V" } : Jvm.MethodName) prog_20_method_91_code (2 : Nat) (Option.none : Option Jvm.ClassFile.FieldType)) ∈ lw_gd := mem_gd rr530.1 rfl
def rr531 := List.forall_mem_cons.mp rr530.2
theorem lk531 : (Jvm.Cond.methodLink "java/lang/StringUTF16" (48 : Nat) ({ cls := "java/lang/StringUTF16", name := "length", desc := "([B)I" } : Jvm.MethodName)) ∈ lw_gd := mem_gd rr531.1 rfl
def rr532 := List.forall_mem_cons.mp rr531.2
theorem lk532 : (Jvm.Cond.static ({ cls := "java/lang/StringUTF16", name := "length", desc := "([B)I" } : Jvm.MethodName)) ∈ lw_gd := mem_gd rr532.1 rfl
def rr533 := List.forall_mem_cons.mp rr532.2
theorem lk533 : (Jvm.Cond.code ({ cls := "java/lang/StringUTF16", name := "length", desc := "([B)I" } : Jvm.MethodName) prog_20_method_6_code (1 : Nat) (Option.some Jvm.ClassFile.FieldType.int)) ∈ lw_gd := mem_gd rr533.1 rfl
def rr534 := List.forall_mem_cons.mp rr533.2
theorem lk534 : (Jvm.Cond.methodLink "java/lang/StringUTF16" (414 : Nat) ({ cls := "java/lang/String", name := "checkIndex", desc := "(II)V" } : Jvm.MethodName)) ∈ lw_gd := mem_gd rr534.1 rfl
def rr535 := List.forall_mem_cons.mp rr534.2
theorem lk535 : (Jvm.Cond.methodLink "java/lang/StringUTF16" (71 : Nat) ({ cls := "java/lang/StringUTF16", name := "getChar", desc := "([BI)C" } : Jvm.MethodName)) ∈ lw_gd := mem_gd rr535.1 rfl
def rr536 := List.forall_mem_cons.mp rr535.2
theorem lk536 : (Jvm.Cond.static ({ cls := "java/lang/StringUTF16", name := "getChar", desc := "([BI)C" } : Jvm.MethodName)) ∈ lw_gd := mem_gd rr536.1 rfl
def rr537 := List.forall_mem_cons.mp rr536.2
theorem lk537 : (Jvm.Cond.code ({ cls := "java/lang/StringUTF16", name := "getChar", desc := "([BI)C" } : Jvm.MethodName) prog_20_method_5_code (2 : Nat) (Option.some Jvm.ClassFile.FieldType.char)) ∈ lw_gd := mem_gd rr537.1 rfl
def rr538 := List.forall_mem_cons.mp rr537.2
theorem lk538 : (Jvm.Cond.fieldLink "java/lang/StringUTF16" (44 : Nat) "java/lang/StringUTF16" "$assertionsDisabled" "Z") ∈ lw_gd := mem_gd rr538.1 rfl
def rr539 := List.forall_mem_cons.mp rr538.2
def rr540 := List.forall_mem_cons.mp rr539.2
theorem lk540 : (Jvm.Cond.fieldLink "java/lang/StringUTF16" (59 : Nat) "java/lang/StringUTF16" "HI_BYTE_SHIFT" "I") ∈ lw_gd := mem_gd rr540.1 rfl
def rr541 := List.forall_mem_cons.mp rr540.2
def rr542 := List.forall_mem_cons.mp rr541.2
theorem lk542 : (Jvm.Cond.fieldLink "java/lang/StringUTF16" (63 : Nat) "java/lang/StringUTF16" "LO_BYTE_SHIFT" "I") ∈ lw_gd := mem_gd rr542.1 rfl
def rr543 := List.forall_mem_cons.mp rr542.2
def rr544 := List.forall_mem_cons.mp rr543.2
def rr545 := List.forall_mem_cons.mp rr544.2
theorem lk545 : (Jvm.Cond.methodLink "YawnRoute$Tape" (68 : Nat) ({ cls := "java/lang/String", name := "indexOf", desc := "(I)I" } : Jvm.MethodName)) ∈ lw_gd := mem_gd rr545.1 rfl
def rr546 := List.forall_mem_cons.mp rr545.2
theorem lk546 : (Jvm.Cond.instanceMethod ({ cls := "java/lang/String", name := "indexOf", desc := "(I)I" } : Jvm.MethodName)) ∈ lw_gd := mem_gd rr546.1 rfl
def rr547 := List.forall_mem_cons.mp rr546.2
theorem lk547 : (Jvm.Cond.selects "java/lang/String" ({ cls := "java/lang/String", name := "indexOf", desc := "(I)I" } : Jvm.MethodName) ({ cls := "java/lang/String", name := "indexOf", desc := "(I)I" } : Jvm.MethodName)) ∈ lw_gd := mem_gd rr547.1 rfl
def rr548 := List.forall_mem_cons.mp rr547.2
theorem lk548 : (Jvm.Cond.code ({ cls := "java/lang/String", name := "indexOf", desc := "(I)I" } : Jvm.MethodName) prog_18_method_79_code (2 : Nat) (Option.some Jvm.ClassFile.FieldType.int)) ∈ lw_gd := mem_gd rr548.1 rfl
def rr549 := List.forall_mem_cons.mp rr548.2
theorem lk549 : (Jvm.Cond.methodLink "java/lang/String" (633 : Nat) ({ cls := "java/lang/String", name := "indexOf", desc := "(II)I" } : Jvm.MethodName)) ∈ lw_gd := mem_gd rr549.1 rfl
def rr550 := List.forall_mem_cons.mp rr549.2
theorem lk550 : (Jvm.Cond.instanceMethod ({ cls := "java/lang/String", name := "indexOf", desc := "(II)I" } : Jvm.MethodName)) ∈ lw_gd := mem_gd rr550.1 rfl
def rr551 := List.forall_mem_cons.mp rr550.2
theorem lk551 : (Jvm.Cond.selects "java/lang/String" ({ cls := "java/lang/String", name := "indexOf", desc := "(II)I" } : Jvm.MethodName) ({ cls := "java/lang/String", name := "indexOf", desc := "(II)I" } : Jvm.MethodName)) ∈ lw_gd := mem_gd rr551.1 rfl
def rr552 := List.forall_mem_cons.mp rr551.2
theorem lk552 : (Jvm.Cond.code ({ cls := "java/lang/String", name := "indexOf", desc := "(II)I" } : Jvm.MethodName) prog_18_method_80_code (3 : Nat) (Option.some Jvm.ClassFile.FieldType.int)) ∈ lw_gd := mem_gd rr552.1 rfl
def rr553 := List.forall_mem_cons.mp rr552.2
theorem lk553 : (Jvm.Cond.methodLink "java/lang/String" (505 : Nat) ({ cls := "java/lang/String", name := "length", desc := "()I" } : Jvm.MethodName)) ∈ lw_gd := mem_gd rr553.1 rfl
def rr554 := List.forall_mem_cons.mp rr553.2
theorem lk554 : (Jvm.Cond.methodLink "java/lang/String" (637 : Nat) ({ cls := "java/lang/StringLatin1", name := "indexOf", desc := "([BIII)I" } : Jvm.MethodName)) ∈ lw_gd := mem_gd rr554.1 rfl
def rr555 := List.forall_mem_cons.mp rr554.2
theorem lk555 : (Jvm.Cond.static ({ cls := "java/lang/StringLatin1", name := "indexOf", desc := "([BIII)I" } : Jvm.MethodName)) ∈ lw_gd := mem_gd rr555.1 rfl
def rr556 := List.forall_mem_cons.mp rr555.2
theorem lk556 : (Jvm.Cond.code ({ cls := "java/lang/StringLatin1", name := "indexOf", desc := "([BIII)I" } : Jvm.MethodName) prog_19_method_22_code (4 : Nat) (Option.some Jvm.ClassFile.FieldType.int)) ∈ lw_gd := mem_gd rr556.1 rfl
def rr557 := List.forall_mem_cons.mp rr556.2
theorem lk557 : (Jvm.Cond.methodLink "java/lang/StringLatin1" (88 : Nat) ({ cls := "java/lang/StringLatin1", name := "canEncode", desc := "(I)Z" } : Jvm.MethodName)) ∈ lw_gd := mem_gd rr557.1 rfl
def rr558 := List.forall_mem_cons.mp rr557.2
theorem lk558 : (Jvm.Cond.static ({ cls := "java/lang/StringLatin1", name := "canEncode", desc := "(I)Z" } : Jvm.MethodName)) ∈ lw_gd := mem_gd rr558.1 rfl
def rr559 := List.forall_mem_cons.mp rr558.2
theorem lk559 : (Jvm.Cond.code ({ cls := "java/lang/StringLatin1", name := "canEncode", desc := "(I)Z" } : Jvm.MethodName) prog_19_method_4_code (1 : Nat) (Option.some Jvm.ClassFile.FieldType.boolean)) ∈ lw_gd := mem_gd rr559.1 rfl
def rr560 := List.forall_mem_cons.mp rr559.2
theorem lk560 : (Jvm.Cond.methodLink "java/lang/StringLatin1" (92 : Nat) ({ cls := "java/lang/Math", name := "max", desc := "(II)I" } : Jvm.MethodName)) ∈ lw_gd := mem_gd rr560.1 rfl
def rr561 := List.forall_mem_cons.mp rr560.2
theorem lk561 : (Jvm.Cond.static ({ cls := "java/lang/Math", name := "max", desc := "(II)I" } : Jvm.MethodName)) ∈ lw_gd := mem_gd rr561.1 rfl
def rr562 := List.forall_mem_cons.mp rr561.2
theorem lk562 : (Jvm.Cond.code ({ cls := "java/lang/Math", name := "max", desc := "(II)I" } : Jvm.MethodName) prog_17_method_65_code (2 : Nat) (Option.some Jvm.ClassFile.FieldType.int)) ∈ lw_gd := mem_gd rr562.1 rfl
def rr563 := List.forall_mem_cons.mp rr562.2
theorem lk563 : (Jvm.Cond.methodLink "java/lang/StringLatin1" (38 : Nat) ({ cls := "java/lang/Math", name := "min", desc := "(II)I" } : Jvm.MethodName)) ∈ lw_gd := mem_gd rr563.1 rfl
def rr564 := List.forall_mem_cons.mp rr563.2
theorem lk564 : (Jvm.Cond.methodLink "java/lang/StringLatin1" (95 : Nat) ({ cls := "java/lang/StringLatin1", name := "indexOfChar", desc := "([BIII)I" } : Jvm.MethodName)) ∈ lw_gd := mem_gd rr564.1 rfl
def rr565 := List.forall_mem_cons.mp rr564.2
theorem lk565 : (Jvm.Cond.static ({ cls := "java/lang/StringLatin1", name := "indexOfChar", desc := "([BIII)I" } : Jvm.MethodName)) ∈ lw_gd := mem_gd rr565.1 rfl
def rr566 := List.forall_mem_cons.mp rr565.2
theorem lk566 : (Jvm.Cond.code ({ cls := "java/lang/StringLatin1", name := "indexOfChar", desc := "([BIII)I" } : Jvm.MethodName) prog_19_method_23_code (6 : Nat) (Option.some Jvm.ClassFile.FieldType.int)) ∈ lw_gd := mem_gd rr566.1 rfl
def rr567 := List.forall_mem_cons.mp rr566.2
theorem lk567 : (Jvm.Cond.methodLink "java/lang/String" (640 : Nat) ({ cls := "java/lang/StringUTF16", name := "indexOf", desc := "([BIII)I" } : Jvm.MethodName)) ∈ lw_gd := mem_gd rr567.1 rfl
def rr568 := List.forall_mem_cons.mp rr567.2
theorem lk568 : (Jvm.Cond.static ({ cls := "java/lang/StringUTF16", name := "indexOf", desc := "([BIII)I" } : Jvm.MethodName)) ∈ lw_gd := mem_gd rr568.1 rfl
def rr569 := List.forall_mem_cons.mp rr568.2
theorem lk569 : (Jvm.Cond.code ({ cls := "java/lang/StringUTF16", name := "indexOf", desc := "([BIII)I" } : Jvm.MethodName) prog_20_method_40_code (4 : Nat) (Option.some Jvm.ClassFile.FieldType.int)) ∈ lw_gd := mem_gd rr569.1 rfl
def rr570 := List.forall_mem_cons.mp rr569.2
theorem lk570 : (Jvm.Cond.methodLink "java/lang/StringUTF16" (224 : Nat) ({ cls := "java/lang/Math", name := "max", desc := "(II)I" } : Jvm.MethodName)) ∈ lw_gd := mem_gd rr570.1 rfl
def rr571 := List.forall_mem_cons.mp rr570.2
theorem lk571 : (Jvm.Cond.methodLink "java/lang/StringUTF16" (183 : Nat) ({ cls := "java/lang/Math", name := "min", desc := "(II)I" } : Jvm.MethodName)) ∈ lw_gd := mem_gd rr571.1 rfl
def rr572 := List.forall_mem_cons.mp rr571.2
theorem lk572 : (Jvm.Cond.constant "java/lang/StringUTF16" (227 : Nat) (65536 : Int32)) ∈ lw_gd := mem_gd rr572.1 rfl
def rr573 := List.forall_mem_cons.mp rr572.2
theorem lk573 : (Jvm.Cond.methodLink "java/lang/StringUTF16" (228 : Nat) ({ cls := "java/lang/StringUTF16", name := "indexOfChar", desc := "([BIII)I" } : Jvm.MethodName)) ∈ lw_gd := mem_gd rr573.1 rfl
def rr574 := List.forall_mem_cons.mp rr573.2
theorem lk574 : (Jvm.Cond.static ({ cls := "java/lang/StringUTF16", name := "indexOfChar", desc := "([BIII)I" } : Jvm.MethodName)) ∈ lw_gd := mem_gd rr574.1 rfl
def rr575 := List.forall_mem_cons.mp rr574.2
theorem lk575 : (Jvm.Cond.code ({ cls := "java/lang/StringUTF16", name := "indexOfChar", desc := "([BIII)I" } : Jvm.MethodName) prog_20_method_47_code (4 : Nat) (Option.some Jvm.ClassFile.FieldType.int)) ∈ lw_gd := mem_gd rr575.1 rfl
def rr576 := List.forall_mem_cons.mp rr575.2
theorem lk576 : (Jvm.Cond.methodLink "java/lang/StringUTF16" (96 : Nat) ({ cls := "java/lang/StringUTF16", name := "checkBoundsBeginEnd", desc := "(II[B)V" } : Jvm.MethodName)) ∈ lw_gd := mem_gd rr576.1 rfl
def rr577 := List.forall_mem_cons.mp rr576.2
theorem lk577 : (Jvm.Cond.static ({ cls := "java/lang/StringUTF16", name := "checkBoundsBeginEnd", desc := "(II[B)V" } : Jvm.MethodName)) ∈ lw_gd := mem_gd rr577.1 rfl
def rr578 := List.forall_mem_cons.mp rr577.2
theorem lk578 : (Jvm.Cond.code ({ cls := "java/lang/StringUTF16", name := "checkBoundsBeginEnd", desc := "(II[B)V" } : Jvm.MethodName) prog_20_method_93_code (3 : Nat) (Option.none : Option Jvm.ClassFile.FieldType)) ∈ lw_gd := mem_gd rr578.1 rfl
def rr579 := List.forall_mem_cons.mp rr578.2
theorem lk579 : (Jvm.Cond.methodLink "java/lang/StringUTF16" (241 : Nat) ({ cls := "java/lang/String", name := "checkBoundsBeginEnd", desc := "(III)V" } : Jvm.MethodName)) ∈ lw_gd := mem_gd rr579.1 rfl
def rr580 := List.forall_mem_cons.mp rr579.2
theorem lk580 : (Jvm.Cond.static ({ cls := "java/lang/String", name := "checkBoundsBeginEnd", desc := "(III)V" } : Jvm.MethodName)) ∈ lw_gd := mem_gd rr580.1 rfl
def rr581 := List.forall_mem_cons.mp rr580.2
theorem lk581 : (Jvm.Cond.code ({ cls := "java/lang/String", name := "checkBoundsBeginEnd", desc := "(III)V" } : Jvm.MethodName) prog_18_method_158_code (3 : Nat) (Option.none : Option Jvm.ClassFile.FieldType)) ∈ lw_gd := mem_gd rr581.1 rfl
def rr582 := List.forall_mem_cons.mp rr581.2
theorem lk582 : (Jvm.Cond.methodLink "java/lang/String" (1062 : Nat) ({ cls := "jdk/internal/util/Preconditions", name := "checkFromToIndex", desc := "(IIILjava/util/function/BiFunction;)I" } : Jvm.MethodName)) ∈ lw_gd := mem_gd rr582.1 rfl
def rr583 := List.forall_mem_cons.mp rr582.2
theorem lk583 : (Jvm.Cond.static ({ cls := "jdk/internal/util/Preconditions", name := "checkFromToIndex", desc := "(IIILjava/util/function/BiFunction;)I" } : Jvm.MethodName)) ∈ lw_gd := mem_gd rr583.1 rfl
def rr584 := List.forall_mem_cons.mp rr583.2
theorem lk584 : (Jvm.Cond.code ({ cls := "jdk/internal/util/Preconditions", name := "checkFromToIndex", desc := "(IIILjava/util/function/BiFunction;)I" } : Jvm.MethodName) prog_23_method_12_code (4 : Nat) (Option.some Jvm.ClassFile.FieldType.int)) ∈ lw_gd := mem_gd rr584.1 rfl
def rr585 := List.forall_mem_cons.mp rr584.2
theorem lk585 : (Jvm.Cond.methodLink "java/lang/StringUTF16" (244 : Nat) ({ cls := "java/lang/StringUTF16", name := "indexOfCharUnsafe", desc := "([BIII)I" } : Jvm.MethodName)) ∈ lw_gd := mem_gd rr585.1 rfl
def rr586 := List.forall_mem_cons.mp rr585.2
theorem lk586 : (Jvm.Cond.static ({ cls := "java/lang/StringUTF16", name := "indexOfCharUnsafe", desc := "([BIII)I" } : Jvm.MethodName)) ∈ lw_gd := mem_gd rr586.1 rfl
def rr587 := List.forall_mem_cons.mp rr586.2
theorem lk587 : (Jvm.Cond.code ({ cls := "java/lang/StringUTF16", name := "indexOfCharUnsafe", desc := "([BIII)I" } : Jvm.MethodName) prog_20_method_48_code (5 : Nat) (Option.some Jvm.ClassFile.FieldType.int)) ∈ lw_gd := mem_gd rr587.1 rfl
def rr588 := List.forall_mem_cons.mp rr587.2
theorem lk588 : (Jvm.Cond.methodLink "java/lang/StringUTF16" (232 : Nat) ({ cls := "java/lang/StringUTF16", name := "indexOfSupplementary", desc := "([BIII)I" } : Jvm.MethodName)) ∈ lw_gd := mem_gd rr588.1 rfl
def rr589 := List.forall_mem_cons.mp rr588.2
theorem lk589 : (Jvm.Cond.static ({ cls := "java/lang/StringUTF16", name := "indexOfSupplementary", desc := "([BIII)I" } : Jvm.MethodName)) ∈ lw_gd := mem_gd rr589.1 rfl
def rr590 := List.forall_mem_cons.mp rr589.2
theorem lk590 : (Jvm.Cond.code ({ cls := "java/lang/StringUTF16", name := "indexOfSupplementary", desc := "([BIII)I" } : Jvm.MethodName) prog_20_method_49_code (7 : Nat) (Option.some Jvm.ClassFile.FieldType.int)) ∈ lw_gd := mem_gd rr590.1 rfl
def rr591 := List.forall_mem_cons.mp rr590.2
theorem lk591 : (Jvm.Cond.methodLink "java/lang/StringUTF16" (164 : Nat) ({ cls := "java/lang/Character", name := "isValidCodePoint", desc := "(I)Z" } : Jvm.MethodName)) ∈ lw_gd := mem_gd rr591.1 rfl
def rr592 := List.forall_mem_cons.mp rr591.2
theorem lk592 : (Jvm.Cond.static ({ cls := "java/lang/Character", name := "isValidCodePoint", desc := "(I)Z" } : Jvm.MethodName)) ∈ lw_gd := mem_gd rr592.1 rfl
def rr593 := List.forall_mem_cons.mp rr592.2
theorem lk593 : (Jvm.Cond.code ({ cls := "java/lang/Character", name := "isValidCodePoint", desc := "(I)Z" } : Jvm.MethodName) prog_15_method_11_code (2 : Nat) (Option.some Jvm.ClassFile.FieldType.boolean)) ∈ lw_gd := mem_gd rr593.1 rfl
def rr594 := List.forall_mem_cons.mp rr593.2
theorem lk594 : (Jvm.Cond.methodLink "java/lang/StringUTF16" (157 : Nat) ({ cls := "java/lang/Character", name := "highSurrogate", desc := "(I)C" } : Jvm.MethodName)) ∈ lw_gd := mem_gd rr594.1 rfl
def rr595 := List.forall_mem_cons.mp rr594.2
theorem lk595 : (Jvm.Cond.static ({ cls := "java/lang/Character", name := "highSurrogate", desc := "(I)C" } : Jvm.MethodName)) ∈ lw_gd := mem_gd rr595.1 rfl
def rr596 := List.forall_mem_cons.mp rr595.2
theorem lk596 : (Jvm.Cond.code ({ cls := "java/lang/Character", name := "highSurrogate", desc := "(I)C" } : Jvm.MethodName) prog_15_method_28_code (1 : Nat) (Option.some Jvm.ClassFile.FieldType.char)) ∈ lw_gd := mem_gd rr596.1 rfl
def rr597 := List.forall_mem_cons.mp rr596.2
theorem lk597 : (Jvm.Cond.constant "java/lang/Character" (110 : Nat) (55232 : Int32)) ∈ lw_gd := mem_gd rr597.1 rfl
def rr598 := List.forall_mem_cons.mp rr597.2
theorem lk598 : (Jvm.Cond.methodLink "java/lang/StringUTF16" (161 : Nat) ({ cls := "java/lang/Character", name := "lowSurrogate", desc := "(I)C" } : Jvm.MethodName)) ∈ lw_gd := mem_gd rr598.1 rfl
def rr599 := List.forall_mem_cons.mp rr598.2
theorem lk599 : (Jvm.Cond.static ({ cls := "java/lang/Character", name := "lowSurrogate", desc := "(I)C" } : Jvm.MethodName)) ∈ lw_gd := mem_gd rr599.1 rfl
def rr600 := List.forall_mem_cons.mp rr599.2
theorem lk600 : (Jvm.Cond.code ({ cls := "java/lang/Character", name := "lowSurrogate", desc := "(I)C" } : Jvm.MethodName) prog_15_method_29_code (1 : Nat) (Option.some Jvm.ClassFile.FieldType.char)) ∈ lw_gd := mem_gd rr600.1 rfl
def rr601 := List.forall_mem_cons.mp rr600.2
theorem lk601 : (Jvm.Cond.constant "java/lang/Character" (76 : Nat) (56320 : Int32)) ∈ lw_gd := mem_gd rr601.1 rfl
def rr602 := List.forall_mem_cons.mp rr601.2
theorem lk602 : (Jvm.Cond.methodLink "YawnRoute$NetReader" (48 : Nat) ({ cls := "YawnRoute$Tape", name := "skip", desc := "(I)V" } : Jvm.MethodName)) ∈ lw_gd := mem_gd rr602.1 rfl
def rr603 := List.forall_mem_cons.mp rr602.2
theorem lk603 : (Jvm.Cond.instanceMethod ({ cls := "YawnRoute$Tape", name := "skip", desc := "(I)V" } : Jvm.MethodName)) ∈ lw_gd := mem_gd rr603.1 rfl
def rr604 := List.forall_mem_cons.mp rr603.2
theorem lk604 : (Jvm.Cond.selects "YawnRoute$Tape" ({ cls := "YawnRoute$Tape", name := "skip", desc := "(I)V" } : Jvm.MethodName) ({ cls := "YawnRoute$Tape", name := "skip", desc := "(I)V" } : Jvm.MethodName)) ∈ lw_gd := mem_gd rr604.1 rfl
def rr605 := List.forall_mem_cons.mp rr604.2
theorem lk605 : (Jvm.Cond.code ({ cls := "YawnRoute$Tape", name := "skip", desc := "(I)V" } : Jvm.MethodName) prog_11_method_6_code (2 : Nat) (Option.none : Option Jvm.ClassFile.FieldType)) ∈ lw_gd := mem_gd rr605.1 rfl
def rr606 := List.forall_mem_cons.mp rr605.2
theorem lk606 : (Jvm.Cond.methodLink "YawnRoute$NetReader" (58 : Nat) ({ cls := "YawnRoute$NetReader", name := "readStation", desc := "()V" } : Jvm.MethodName)) ∈ lw_gd := mem_gd rr606.1 rfl
def rr607 := List.forall_mem_cons.mp rr606.2
def rr608 := List.forall_mem_cons.mp rr607.2
theorem lk608 : (Jvm.Cond.instanceMethod ({ cls := "YawnRoute$NetReader", name := "readStation", desc := "()V" } : Jvm.MethodName)) ∈ lw_gd := mem_gd rr608.1 rfl
def rr609 := List.forall_mem_cons.mp rr608.2
theorem lk609 : (Jvm.Cond.code ({ cls := "YawnRoute$NetReader", name := "readStation", desc := "()V" } : Jvm.MethodName) prog_5_method_3_code (4 : Nat) (Option.none : Option Jvm.ClassFile.FieldType)) ∈ lw_gd := mem_gd rr609.1 rfl
def rr610 := List.forall_mem_cons.mp rr609.2
theorem lk610 : (Jvm.Cond.methodLink "YawnRoute$NetReader" (73 : Nat) ({ cls := "YawnRoute$Tape", name := "fail", desc := "(I)V" } : Jvm.MethodName)) ∈ lw_gd := mem_gd rr610.1 rfl
def rr611 := List.forall_mem_cons.mp rr610.2
theorem lk611 : (Jvm.Cond.methodLink "YawnRoute$NetReader" (82 : Nat) ({ cls := "YawnRoute$Tape", name := "next", desc := "()V" } : Jvm.MethodName)) ∈ lw_gd := mem_gd rr611.1 rfl
def rr612 := List.forall_mem_cons.mp rr611.2
theorem lk612 : (Jvm.Cond.methodLink "YawnRoute$NetReader" (85 : Nat) ({ cls := "YawnRoute$NetReader", name := "readFlag", desc := "(I)Z" } : Jvm.MethodName)) ∈ lw_gd := mem_gd rr612.1 rfl
def rr613 := List.forall_mem_cons.mp rr612.2
def rr614 := List.forall_mem_cons.mp rr613.2
theorem lk614 : (Jvm.Cond.instanceMethod ({ cls := "YawnRoute$NetReader", name := "readFlag", desc := "(I)Z" } : Jvm.MethodName)) ∈ lw_gd := mem_gd rr614.1 rfl
def rr615 := List.forall_mem_cons.mp rr614.2
theorem lk615 : (Jvm.Cond.code ({ cls := "YawnRoute$NetReader", name := "readFlag", desc := "(I)Z" } : Jvm.MethodName) prog_5_method_4_code (3 : Nat) (Option.some Jvm.ClassFile.FieldType.boolean)) ∈ lw_gd := mem_gd rr615.1 rfl
def rr616 := List.forall_mem_cons.mp rr615.2
theorem lk616 : (Jvm.Cond.methodLink "YawnRoute$NetReader" (89 : Nat) ({ cls := "YawnRoute$Tape", name := "takeNumber", desc := "(II)I" } : Jvm.MethodName)) ∈ lw_gd := mem_gd rr616.1 rfl
def rr617 := List.forall_mem_cons.mp rr616.2
theorem lk617 : (Jvm.Cond.instanceMethod ({ cls := "YawnRoute$Tape", name := "takeNumber", desc := "(II)I" } : Jvm.MethodName)) ∈ lw_gd := mem_gd rr617.1 rfl
def rr618 := List.forall_mem_cons.mp rr617.2
theorem lk618 : (Jvm.Cond.selects "YawnRoute$Tape" ({ cls := "YawnRoute$Tape", name := "takeNumber", desc := "(II)I" } : Jvm.MethodName) ({ cls := "YawnRoute$Tape", name := "takeNumber", desc := "(II)I" } : Jvm.MethodName)) ∈ lw_gd := mem_gd rr618.1 rfl
def rr619 := List.forall_mem_cons.mp rr618.2
theorem lk619 : (Jvm.Cond.code ({ cls := "YawnRoute$Tape", name := "takeNumber", desc := "(II)I" } : Jvm.MethodName) prog_11_method_7_code (4 : Nat) (Option.some Jvm.ClassFile.FieldType.int)) ∈ lw_gd := mem_gd rr619.1 rfl
def rr620 := List.forall_mem_cons.mp rr619.2
theorem lk620 : (Jvm.Cond.methodLink "YawnRoute$NetReader" (93 : Nat) ({ cls := "YawnRoute$State", name := "setDull", desc := "(II)V" } : Jvm.MethodName)) ∈ lw_gd := mem_gd rr620.1 rfl
def rr621 := List.forall_mem_cons.mp rr620.2
theorem lk621 : (Jvm.Cond.instanceMethod ({ cls := "YawnRoute$State", name := "setDull", desc := "(II)V" } : Jvm.MethodName)) ∈ lw_gd := mem_gd rr621.1 rfl
def rr622 := List.forall_mem_cons.mp rr621.2
theorem lk622 : (Jvm.Cond.selects "YawnRoute$State" ({ cls := "YawnRoute$State", name := "setDull", desc := "(II)V" } : Jvm.MethodName) ({ cls := "YawnRoute$State", name := "setDull", desc := "(II)V" } : Jvm.MethodName)) ∈ lw_gd := mem_gd rr622.1 rfl
def rr623 := List.forall_mem_cons.mp rr622.2
theorem lk623 : (Jvm.Cond.code ({ cls := "YawnRoute$State", name := "setDull", desc := "(II)V" } : Jvm.MethodName) prog_9_method_6_code (3 : Nat) (Option.none : Option Jvm.ClassFile.FieldType)) ∈ lw_gd := mem_gd rr623.1 rfl
def rr624 := List.forall_mem_cons.mp rr623.2
theorem lk624 : (Jvm.Cond.methodLink "YawnRoute$NetReader" (61 : Nat) ({ cls := "YawnRoute$NetReader", name := "readWay", desc := "()V" } : Jvm.MethodName)) ∈ lw_gd := mem_gd rr624.1 rfl
def rr625 := List.forall_mem_cons.mp rr624.2
def rr626 := List.forall_mem_cons.mp rr625.2
theorem lk626 : (Jvm.Cond.instanceMethod ({ cls := "YawnRoute$NetReader", name := "readWay", desc := "()V" } : Jvm.MethodName)) ∈ lw_gd := mem_gd rr626.1 rfl
def rr627 := List.forall_mem_cons.mp rr626.2
theorem lk627 : (Jvm.Cond.code ({ cls := "YawnRoute$NetReader", name := "readWay", desc := "()V" } : Jvm.MethodName) prog_5_method_5_code (7 : Nat) (Option.none : Option Jvm.ClassFile.FieldType)) ∈ lw_gd := mem_gd rr627.1 rfl
def rr628 := List.forall_mem_cons.mp rr627.2
theorem lk628 : (Jvm.Cond.methodLink "YawnRoute$NetReader" (104 : Nat) ({ cls := "YawnRoute$NetReader", name := "readTold", desc := "(I)I" } : Jvm.MethodName)) ∈ lw_gd := mem_gd rr628.1 rfl
def rr629 := List.forall_mem_cons.mp rr628.2
def rr630 := List.forall_mem_cons.mp rr629.2
theorem lk630 : (Jvm.Cond.instanceMethod ({ cls := "YawnRoute$NetReader", name := "readTold", desc := "(I)I" } : Jvm.MethodName)) ∈ lw_gd := mem_gd rr630.1 rfl
def rr631 := List.forall_mem_cons.mp rr630.2
theorem lk631 : (Jvm.Cond.code ({ cls := "YawnRoute$NetReader", name := "readTold", desc := "(I)I" } : Jvm.MethodName) prog_5_method_9_code (2 : Nat) (Option.some Jvm.ClassFile.FieldType.int)) ∈ lw_gd := mem_gd rr631.1 rfl
def rr632 := List.forall_mem_cons.mp rr631.2
theorem lk632 : (Jvm.Cond.methodLink "YawnRoute$NetReader" (108 : Nat) ({ cls := "YawnRoute$Net", name := "setWay", desc := "(IIII)V" } : Jvm.MethodName)) ∈ lw_gd := mem_gd rr632.1 rfl
def rr633 := List.forall_mem_cons.mp rr632.2
theorem lk633 : (Jvm.Cond.instanceMethod ({ cls := "YawnRoute$Net", name := "setWay", desc := "(IIII)V" } : Jvm.MethodName)) ∈ lw_gd := mem_gd rr633.1 rfl
def rr634 := List.forall_mem_cons.mp rr633.2
theorem lk634 : (Jvm.Cond.selects "YawnRoute$Net" ({ cls := "YawnRoute$Net", name := "setWay", desc := "(IIII)V" } : Jvm.MethodName) ({ cls := "YawnRoute$Net", name := "setWay", desc := "(IIII)V" } : Jvm.MethodName)) ∈ lw_gd := mem_gd rr634.1 rfl
def rr635 := List.forall_mem_cons.mp rr634.2
theorem lk635 : (Jvm.Cond.code ({ cls := "YawnRoute$Net", name := "setWay", desc := "(IIII)V" } : Jvm.MethodName) prog_4_method_7_code (5 : Nat) (Option.none : Option Jvm.ClassFile.FieldType)) ∈ lw_gd := mem_gd rr635.1 rfl
def rr636 := List.forall_mem_cons.mp rr635.2
theorem lk636 : (Jvm.Cond.methodLink "YawnRoute$Net" (64 : Nat) ({ cls := "YawnRoute$Net", name := "isStation", desc := "(I)Z" } : Jvm.MethodName)) ∈ lw_gd := mem_gd rr636.1 rfl
def rr637 := List.forall_mem_cons.mp rr636.2
theorem lk637 : (Jvm.Cond.instanceMethod ({ cls := "YawnRoute$Net", name := "isStation", desc := "(I)Z" } : Jvm.MethodName)) ∈ lw_gd := mem_gd rr637.1 rfl
def rr638 := List.forall_mem_cons.mp rr637.2
theorem lk638 : (Jvm.Cond.selects "YawnRoute$Net" ({ cls := "YawnRoute$Net", name := "isStation", desc := "(I)Z" } : Jvm.MethodName) ({ cls := "YawnRoute$Net", name := "isStation", desc := "(I)Z" } : Jvm.MethodName)) ∈ lw_gd := mem_gd rr638.1 rfl
def rr639 := List.forall_mem_cons.mp rr638.2
theorem lk639 : (Jvm.Cond.code ({ cls := "YawnRoute$Net", name := "isStation", desc := "(I)Z" } : Jvm.MethodName) prog_4_method_4_code (2 : Nat) (Option.some Jvm.ClassFile.FieldType.boolean)) ∈ lw_gd := mem_gd rr639.1 rfl
def rr640 := List.forall_mem_cons.mp rr639.2
theorem lk640 : (Jvm.Cond.methodLink "YawnRoute$NetReader" (64 : Nat) ({ cls := "YawnRoute$NetReader", name := "readAt", desc := "()V" } : Jvm.MethodName)) ∈ lw_gd := mem_gd rr640.1 rfl
def rr641 := List.forall_mem_cons.mp rr640.2
def rr642 := List.forall_mem_cons.mp rr641.2
theorem lk642 : (Jvm.Cond.instanceMethod ({ cls := "YawnRoute$NetReader", name := "readAt", desc := "()V" } : Jvm.MethodName)) ∈ lw_gd := mem_gd rr642.1 rfl
def rr643 := List.forall_mem_cons.mp rr642.2
theorem lk643 : (Jvm.Cond.code ({ cls := "YawnRoute$NetReader", name := "readAt", desc := "()V" } : Jvm.MethodName) prog_5_method_6_code (1 : Nat) (Option.none : Option Jvm.ClassFile.FieldType)) ∈ lw_gd := mem_gd rr643.1 rfl
def rr644 := List.forall_mem_cons.mp rr643.2
theorem lk644 : (Jvm.Cond.methodLink "YawnRoute$NetReader" (67 : Nat) ({ cls := "YawnRoute$NetReader", name := "readTakes", desc := "()V" } : Jvm.MethodName)) ∈ lw_gd := mem_gd rr644.1 rfl
def rr645 := List.forall_mem_cons.mp rr644.2
def rr646 := List.forall_mem_cons.mp rr645.2
theorem lk646 : (Jvm.Cond.instanceMethod ({ cls := "YawnRoute$NetReader", name := "readTakes", desc := "()V" } : Jvm.MethodName)) ∈ lw_gd := mem_gd rr646.1 rfl
def rr647 := List.forall_mem_cons.mp rr646.2
theorem lk647 : (Jvm.Cond.code ({ cls := "YawnRoute$NetReader", name := "readTakes", desc := "()V" } : Jvm.MethodName) prog_5_method_7_code (1 : Nat) (Option.none : Option Jvm.ClassFile.FieldType)) ∈ lw_gd := mem_gd rr647.1 rfl
def rr648 := List.forall_mem_cons.mp rr647.2
theorem lk648 : (Jvm.Cond.methodLinkNest "YawnRoute$NetReader" (124 : Nat) ({ cls := "YawnRoute$LawReader", name := "readTruth", desc := "(I)V" } : Jvm.MethodName) "YawnRoute") ∈ lw_tbl := rr648.1
def rr649 := List.forall_mem_cons.mp rr648.2
def rr650 := List.forall_mem_cons.mp rr649.2
theorem lk650 : (Jvm.Cond.instanceMethod ({ cls := "YawnRoute$LawReader", name := "readTruth", desc := "(I)V" } : Jvm.MethodName)) ∈ lw_gd := mem_gd rr650.1 rfl
def rr651 := List.forall_mem_cons.mp rr650.2
theorem lk651 : (Jvm.Cond.code ({ cls := "YawnRoute$LawReader", name := "readTruth", desc := "(I)V" } : Jvm.MethodName) prog_3_method_2_code (3 : Nat) (Option.none : Option Jvm.ClassFile.FieldType)) ∈ lw_gd := mem_gd rr651.1 rfl
def rr652 := List.forall_mem_cons.mp rr651.2
theorem lk652 : (Jvm.Cond.methodLink "YawnRoute$LawReader" (19 : Nat) ({ cls := "YawnRoute$LawReader", name := "readBoth", desc := "(I)V" } : Jvm.MethodName)) ∈ lw_gd := mem_gd rr652.1 rfl
def rr653 := List.forall_mem_cons.mp rr652.2
def rr654 := List.forall_mem_cons.mp rr653.2
theorem lk654 : (Jvm.Cond.instanceMethod ({ cls := "YawnRoute$LawReader", name := "readBoth", desc := "(I)V" } : Jvm.MethodName)) ∈ lw_gd := mem_gd rr654.1 rfl
def rr655 := List.forall_mem_cons.mp rr654.2
theorem lk655 : (Jvm.Cond.code ({ cls := "YawnRoute$LawReader", name := "readBoth", desc := "(I)V" } : Jvm.MethodName) prog_3_method_3_code (3 : Nat) (Option.none : Option Jvm.ClassFile.FieldType)) ∈ lw_gd := mem_gd rr655.1 rfl
def rr656 := List.forall_mem_cons.mp rr655.2
theorem lk656 : (Jvm.Cond.methodLink "YawnRoute$LawReader" (37 : Nat) ({ cls := "YawnRoute$LawReader", name := "readUnit", desc := "(I)V" } : Jvm.MethodName)) ∈ lw_gd := mem_gd rr656.1 rfl
def rr657 := List.forall_mem_cons.mp rr656.2
def rr658 := List.forall_mem_cons.mp rr657.2
theorem lk658 : (Jvm.Cond.instanceMethod ({ cls := "YawnRoute$LawReader", name := "readUnit", desc := "(I)V" } : Jvm.MethodName)) ∈ lw_gd := mem_gd rr658.1 rfl
def rr659 := List.forall_mem_cons.mp rr658.2
theorem lk659 : (Jvm.Cond.code ({ cls := "YawnRoute$LawReader", name := "readUnit", desc := "(I)V" } : Jvm.MethodName) prog_3_method_4_code (2 : Nat) (Option.none : Option Jvm.ClassFile.FieldType)) ∈ lw_gd := mem_gd rr659.1 rfl
def rr660 := List.forall_mem_cons.mp rr659.2
theorem lk660 : (Jvm.Cond.methodLink "YawnRoute$LawReader" (40 : Nat) ({ cls := "YawnRoute$LawReader", name := "opens", desc := "(I)Z" } : Jvm.MethodName)) ∈ lw_gd := mem_gd rr660.1 rfl
def rr661 := List.forall_mem_cons.mp rr660.2
def rr662 := List.forall_mem_cons.mp rr661.2
theorem lk662 : (Jvm.Cond.instanceMethod ({ cls := "YawnRoute$LawReader", name := "opens", desc := "(I)Z" } : Jvm.MethodName)) ∈ lw_gd := mem_gd rr662.1 rfl
def rr663 := List.forall_mem_cons.mp rr662.2
theorem lk663 : (Jvm.Cond.code ({ cls := "YawnRoute$LawReader", name := "opens", desc := "(I)Z" } : Jvm.MethodName) prog_3_method_10_code (2 : Nat) (Option.some Jvm.ClassFile.FieldType.boolean)) ∈ lw_gd := mem_gd rr663.1 rfl
def rr664 := List.forall_mem_cons.mp rr663.2
theorem lk664 : (Jvm.Cond.methodLink "YawnRoute$LawReader" (56 : Nat) ({ cls := "YawnRoute$Tape", name := "fail", desc := "(I)V" } : Jvm.MethodName)) ∈ lw_gd := mem_gd rr664.1 rfl
def rr665 := List.forall_mem_cons.mp rr664.2
theorem lk665 : (Jvm.Cond.methodLink "YawnRoute$LawReader" (29 : Nat) ({ cls := "YawnRoute$Tape", name := "next", desc := "()V" } : Jvm.MethodName)) ∈ lw_gd := mem_gd rr665.1 rfl
def rr666 := List.forall_mem_cons.mp rr665.2
theorem lk666 : (Jvm.Cond.methodLink "YawnRoute$LawReader" (32 : Nat) ({ cls := "YawnRoute$Net", name := "addCode", desc := "(I)V" } : Jvm.MethodName)) ∈ lw_gd := mem_gd rr666.1 rfl
def rr667 := List.forall_mem_cons.mp rr666.2
theorem lk667 : (Jvm.Cond.instanceMethod ({ cls := "YawnRoute$Net", name := "addCode", desc := "(I)V" } : Jvm.MethodName)) ∈ lw_gd := mem_gd rr667.1 rfl
def rr668 := List.forall_mem_cons.mp rr667.2
theorem lk668 : (Jvm.Cond.selects "YawnRoute$Net" ({ cls := "YawnRoute$Net", name := "addCode", desc := "(I)V" } : Jvm.MethodName) ({ cls := "YawnRoute$Net", name := "addCode", desc := "(I)V" } : Jvm.MethodName)) ∈ lw_gd := mem_gd rr668.1 rfl
def rr669 := List.forall_mem_cons.mp rr668.2
theorem lk669 : (Jvm.Cond.code ({ cls := "YawnRoute$Net", name := "addCode", desc := "(I)V" } : Jvm.MethodName) prog_4_method_10_code (2 : Nat) (Option.none : Option Jvm.ClassFile.FieldType)) ∈ lw_gd := mem_gd rr669.1 rfl
def rr670 := List.forall_mem_cons.mp rr669.2
theorem lk670 : (Jvm.Cond.methodLink "YawnRoute$LawReader" (44 : Nat) ({ cls := "YawnRoute$LawReader", name := "readTruth", desc := "(I)V" } : Jvm.MethodName)) ∈ lw_gd := mem_gd rr670.1 rfl
def rr671 := List.forall_mem_cons.mp rr670.2
theorem lk671 : (Jvm.Cond.methodLink "YawnRoute$LawReader" (47 : Nat) ({ cls := "YawnRoute$Tape", name := "skip", desc := "(I)V" } : Jvm.MethodName)) ∈ lw_gd := mem_gd rr671.1 rfl
def rr672 := List.forall_mem_cons.mp rr671.2
theorem lk672 : (Jvm.Cond.methodLink "YawnRoute$LawReader" (50 : Nat) ({ cls := "YawnRoute$LawReader", name := "readComparison", desc := "(I)V" } : Jvm.MethodName)) ∈ lw_gd := mem_gd rr672.1 rfl
def rr673 := List.forall_mem_cons.mp rr672.2
def rr674 := List.forall_mem_cons.mp rr673.2
theorem lk674 : (Jvm.Cond.instanceMethod ({ cls := "YawnRoute$LawReader", name := "readComparison", desc := "(I)V" } : Jvm.MethodName)) ∈ lw_gd := mem_gd rr674.1 rfl
def rr675 := List.forall_mem_cons.mp rr674.2
theorem lk675 : (Jvm.Cond.code ({ cls := "YawnRoute$LawReader", name := "readComparison", desc := "(I)V" } : Jvm.MethodName) prog_3_method_5_code (3 : Nat) (Option.none : Option Jvm.ClassFile.FieldType)) ∈ lw_gd := mem_gd rr675.1 rfl
def rr676 := List.forall_mem_cons.mp rr675.2
theorem lk676 : (Jvm.Cond.methodLink "YawnRoute$LawReader" (53 : Nat) ({ cls := "YawnRoute$LawReader", name := "readSum", desc := "(I)V" } : Jvm.MethodName)) ∈ lw_gd := mem_gd rr676.1 rfl
def rr677 := List.forall_mem_cons.mp rr676.2
def rr678 := List.forall_mem_cons.mp rr677.2
theorem lk678 : (Jvm.Cond.instanceMethod ({ cls := "YawnRoute$LawReader", name := "readSum", desc := "(I)V" } : Jvm.MethodName)) ∈ lw_gd := mem_gd rr678.1 rfl
def rr679 := List.forall_mem_cons.mp rr678.2
theorem lk679 : (Jvm.Cond.code ({ cls := "YawnRoute$LawReader", name := "readSum", desc := "(I)V" } : Jvm.MethodName) prog_3_method_6_code (4 : Nat) (Option.none : Option Jvm.ClassFile.FieldType)) ∈ lw_gd := mem_gd rr679.1 rfl
def rr680 := List.forall_mem_cons.mp rr679.2
theorem lk680 : (Jvm.Cond.methodLink "YawnRoute$LawReader" (59 : Nat) ({ cls := "YawnRoute$LawReader", name := "readTerm", desc := "(I)V" } : Jvm.MethodName)) ∈ lw_gd := mem_gd rr680.1 rfl
def rr681 := List.forall_mem_cons.mp rr680.2
def rr682 := List.forall_mem_cons.mp rr681.2
theorem lk682 : (Jvm.Cond.instanceMethod ({ cls := "YawnRoute$LawReader", name := "readTerm", desc := "(I)V" } : Jvm.MethodName)) ∈ lw_gd := mem_gd rr682.1 rfl
def rr683 := List.forall_mem_cons.mp rr682.2
theorem lk683 : (Jvm.Cond.code ({ cls := "YawnRoute$LawReader", name := "readTerm", desc := "(I)V" } : Jvm.MethodName) prog_3_method_7_code (3 : Nat) (Option.none : Option Jvm.ClassFile.FieldType)) ∈ lw_gd := mem_gd rr683.1 rfl
def rr684 := List.forall_mem_cons.mp rr683.2
theorem lk684 : (Jvm.Cond.methodLink "YawnRoute$LawReader" (62 : Nat) ({ cls := "YawnRoute$LawReader", name := "readAtom", desc := "(I)V" } : Jvm.MethodName)) ∈ lw_gd := mem_gd rr684.1 rfl
def rr685 := List.forall_mem_cons.mp rr684.2
def rr686 := List.forall_mem_cons.mp rr685.2
theorem lk686 : (Jvm.Cond.instanceMethod ({ cls := "YawnRoute$LawReader", name := "readAtom", desc := "(I)V" } : Jvm.MethodName)) ∈ lw_gd := mem_gd rr686.1 rfl
def rr687 := List.forall_mem_cons.mp rr686.2
theorem lk687 : (Jvm.Cond.code ({ cls := "YawnRoute$LawReader", name := "readAtom", desc := "(I)V" } : Jvm.MethodName) prog_3_method_8_code (3 : Nat) (Option.none : Option Jvm.ClassFile.FieldType)) ∈ lw_gd := mem_gd rr687.1 rfl
def rr688 := List.forall_mem_cons.mp rr687.2
theorem lk688 : (Jvm.Cond.methodLink "YawnRoute$LawReader" (68 : Nat) ({ cls := "YawnRoute$LawReader", name := "readChoice", desc := "(I)V" } : Jvm.MethodName)) ∈ lw_gd := mem_gd rr688.1 rfl
def rr689 := List.forall_mem_cons.mp rr688.2
def rr690 := List.forall_mem_cons.mp rr689.2
theorem lk690 : (Jvm.Cond.instanceMethod ({ cls := "YawnRoute$LawReader", name := "readChoice", desc := "(I)V" } : Jvm.MethodName)) ∈ lw_gd := mem_gd rr690.1 rfl
def rr691 := List.forall_mem_cons.mp rr690.2
theorem lk691 : (Jvm.Cond.code ({ cls := "YawnRoute$LawReader", name := "readChoice", desc := "(I)V" } : Jvm.MethodName) prog_3_method_9_code (2 : Nat) (Option.none : Option Jvm.ClassFile.FieldType)) ∈ lw_gd := mem_gd rr691.1 rfl
def rr692 := List.forall_mem_cons.mp rr691.2
theorem lk692 : (Jvm.Cond.methodLink "YawnRoute$NetReader" (70 : Nat) ({ cls := "YawnRoute$NetReader", name := "readPasses", desc := "()V" } : Jvm.MethodName)) ∈ lw_gd := mem_gd rr692.1 rfl
def rr693 := List.forall_mem_cons.mp rr692.2
def rr694 := List.forall_mem_cons.mp rr693.2
theorem lk694 : (Jvm.Cond.instanceMethod ({ cls := "YawnRoute$NetReader", name := "readPasses", desc := "()V" } : Jvm.MethodName)) ∈ lw_gd := mem_gd rr694.1 rfl
def rr695 := List.forall_mem_cons.mp rr694.2
theorem lk695 : (Jvm.Cond.code ({ cls := "YawnRoute$NetReader", name := "readPasses", desc := "()V" } : Jvm.MethodName) prog_5_method_8_code (1 : Nat) (Option.none : Option Jvm.ClassFile.FieldType)) ∈ lw_gd := mem_gd rr695.1 rfl
def rr696 := List.forall_mem_cons.mp rr695.2
theorem lk696 : (Jvm.Cond.methodLinkNest "YawnRoute$NetReader" (133 : Nat) ({ cls := "YawnRoute$LawReader", name := "readSum", desc := "(I)V" } : Jvm.MethodName) "YawnRoute") ∈ lw_tbl := rr696.1
def rr697 := List.forall_mem_cons.mp rr696.2
theorem lk697 : (Jvm.Cond.methodLink "YawnRoute" (118 : Nat) ({ cls := "YawnRoute", name := "takeOver", desc := "(LYawnRoute$Net;LYawnRoute$State;)V" } : Jvm.MethodName)) ∈ lw_gd := mem_gd rr697.1 rfl
def rr698 := List.forall_mem_cons.mp rr697.2
def rr699 := List.forall_mem_cons.mp rr698.2
theorem lk699 : (Jvm.Cond.instanceMethod ({ cls := "YawnRoute", name := "takeOver", desc := "(LYawnRoute$Net;LYawnRoute$State;)V" } : Jvm.MethodName)) ∈ lw_gd := mem_gd rr699.1 rfl
def rr700 := List.forall_mem_cons.mp rr699.2
theorem lk700 : (Jvm.Cond.code ({ cls := "YawnRoute", name := "takeOver", desc := "(LYawnRoute$Net;LYawnRoute$State;)V" } : Jvm.MethodName) prog_1_method_44_code (3 : Nat) (Option.none : Option Jvm.ClassFile.FieldType)) ∈ lw_gd := mem_gd rr700.1 rfl
def rr701 := List.forall_mem_cons.mp rr700.2
theorem lk701 : (Jvm.Cond.methodLink "YawnRoute" (353 : Nat) ({ cls := "YawnRoute$Net", name := "copy", desc := "(LYawnRoute$Net;)V" } : Jvm.MethodName)) ∈ lw_gd := mem_gd rr701.1 rfl
def rr702 := List.forall_mem_cons.mp rr701.2
theorem lk702 : (Jvm.Cond.instanceMethod ({ cls := "YawnRoute$Net", name := "copy", desc := "(LYawnRoute$Net;)V" } : Jvm.MethodName)) ∈ lw_gd := mem_gd rr702.1 rfl
def rr703 := List.forall_mem_cons.mp rr702.2
theorem lk703 : (Jvm.Cond.selects "YawnRoute$Net" ({ cls := "YawnRoute$Net", name := "copy", desc := "(LYawnRoute$Net;)V" } : Jvm.MethodName) ({ cls := "YawnRoute$Net", name := "copy", desc := "(LYawnRoute$Net;)V" } : Jvm.MethodName)) ∈ lw_gd := mem_gd rr703.1 rfl
def rr704 := List.forall_mem_cons.mp rr703.2
theorem lk704 : (Jvm.Cond.code ({ cls := "YawnRoute$Net", name := "copy", desc := "(LYawnRoute$Net;)V" } : Jvm.MethodName) prog_4_method_3_code (2 : Nat) (Option.none : Option Jvm.ClassFile.FieldType)) ∈ lw_gd := mem_gd rr704.1 rfl
def rr705 := List.forall_mem_cons.mp rr704.2
theorem lk705 : (Jvm.Cond.methodLink "YawnRoute$Net" (58 : Nat) ({ cls := "java/lang/System", name := "arraycopy", desc := "(Ljava/lang/Object;ILjava/lang/Object;II)V" } : Jvm.MethodName)) ∈ lw_gd := mem_gd rr705.1 rfl
def rr706 := List.forall_mem_cons.mp rr705.2
theorem lk706 : (Jvm.Cond.static ({ cls := "java/lang/System", name := "arraycopy", desc := "(Ljava/lang/Object;ILjava/lang/Object;II)V" } : Jvm.MethodName)) ∈ lw_gd := mem_gd rr706.1 rfl
def rr707 := List.forall_mem_cons.mp rr706.2
theorem lk707 : (Jvm.Cond.native ({ cls := "java/lang/System", name := "arraycopy", desc := "(Ljava/lang/Object;ILjava/lang/Object;II)V" } : Jvm.MethodName)) ∈ lw_gd := mem_gd rr707.1 rfl
def rr708 := List.forall_mem_cons.mp rr707.2
theorem lk708 : (Jvm.Cond.methodLink "YawnRoute" (357 : Nat) ({ cls := "YawnRoute$State", name := "copy", desc := "(LYawnRoute$State;)V" } : Jvm.MethodName)) ∈ lw_gd := mem_gd rr708.1 rfl
def rr709 := List.forall_mem_cons.mp rr708.2
theorem lk709 : (Jvm.Cond.instanceMethod ({ cls := "YawnRoute$State", name := "copy", desc := "(LYawnRoute$State;)V" } : Jvm.MethodName)) ∈ lw_gd := mem_gd rr709.1 rfl
def rr710 := List.forall_mem_cons.mp rr709.2
theorem lk710 : (Jvm.Cond.selects "YawnRoute$State" ({ cls := "YawnRoute$State", name := "copy", desc := "(LYawnRoute$State;)V" } : Jvm.MethodName) ({ cls := "YawnRoute$State", name := "copy", desc := "(LYawnRoute$State;)V" } : Jvm.MethodName)) ∈ lw_gd := mem_gd rr710.1 rfl
def rr711 := List.forall_mem_cons.mp rr710.2
theorem lk711 : (Jvm.Cond.code ({ cls := "YawnRoute$State", name := "copy", desc := "(LYawnRoute$State;)V" } : Jvm.MethodName) prog_9_method_3_code (2 : Nat) (Option.none : Option Jvm.ClassFile.FieldType)) ∈ lw_gd := mem_gd rr711.1 rfl
def rr712 := List.forall_mem_cons.mp rr711.2
theorem lk712 : (Jvm.Cond.methodLink "YawnRoute$State" (34 : Nat) ({ cls := "java/lang/System", name := "arraycopy", desc := "(Ljava/lang/Object;ILjava/lang/Object;II)V" } : Jvm.MethodName)) ∈ lw_gd := mem_gd rr712.1 rfl
def rr713 := List.forall_mem_cons.mp rr712.2
theorem lk713 : (Jvm.Cond.methodLink "YawnRoute" (366 : Nat) ({ cls := "YawnRoute$Deeds", name := "forgetPast", desc := "()V" } : Jvm.MethodName)) ∈ lw_gd := mem_gd rr713.1 rfl
def rr714 := List.forall_mem_cons.mp rr713.2
theorem lk714 : (Jvm.Cond.instanceMethod ({ cls := "YawnRoute$Deeds", name := "forgetPast", desc := "()V" } : Jvm.MethodName)) ∈ lw_gd := mem_gd rr714.1 rfl
def rr715 := List.forall_mem_cons.mp rr714.2
theorem lk715 : (Jvm.Cond.selects "YawnRoute$Deeds" ({ cls := "YawnRoute$Deeds", name := "forgetPast", desc := "()V" } : Jvm.MethodName) ({ cls := "YawnRoute$Deeds", name := "forgetPast", desc := "()V" } : Jvm.MethodName)) ∈ lw_gd := mem_gd rr715.1 rfl
def rr716 := List.forall_mem_cons.mp rr715.2
theorem lk716 : (Jvm.Cond.code ({ cls := "YawnRoute$Deeds", name := "forgetPast", desc := "()V" } : Jvm.MethodName) prog_2_method_5_code (1 : Nat) (Option.none : Option Jvm.ClassFile.FieldType)) ∈ lw_gd := mem_gd rr716.1 rfl
def rr717 := List.forall_mem_cons.mp rr716.2
theorem lk717 : (Jvm.Cond.methodLink "YawnRoute" (369 : Nat) ({ cls := "YawnRoute$Passings", name := "forgetAll", desc := "()V" } : Jvm.MethodName)) ∈ lw_gd := mem_gd rr717.1 rfl
def rr718 := List.forall_mem_cons.mp rr717.2
theorem lk718 : (Jvm.Cond.methodLink "YawnRouteLaw" (23 : Nat) ({ cls := "YawnRoute", name := "fault", desc := "(I)I" } : Jvm.MethodName)) ∈ lw_gd := mem_gd rr718.1 rfl
def rr719 := List.forall_mem_cons.mp rr718.2
theorem lk719 : (Jvm.Cond.instanceMethod ({ cls := "YawnRoute", name := "fault", desc := "(I)I" } : Jvm.MethodName)) ∈ lw_gd := mem_gd rr719.1 rfl
theorem tq3 : ∀ w ∈ tables_1_4, w ∈ lw_tbl := fun w h => List.mem_append_right _ (List.mem_append_right _ (List.mem_append_right _ (List.mem_append_right _ (List.mem_append_left _ h))))
def rr720 := List.forall_mem_cons.mp tq3
theorem lk720 : (Jvm.Cond.selects "YawnRoute" ({ cls := "YawnRoute", name := "fault", desc := "(I)I" } : Jvm.MethodName) ({ cls := "YawnRoute", name := "fault", desc := "(I)I" } : Jvm.MethodName)) ∈ lw_gd := mem_gd rr720.1 rfl
def rr721 := List.forall_mem_cons.mp rr720.2
theorem lk721 : (Jvm.Cond.code ({ cls := "YawnRoute", name := "fault", desc := "(I)I" } : Jvm.MethodName) prog_1_method_4_code (2 : Nat) (Option.some Jvm.ClassFile.FieldType.int)) ∈ lw_gd := mem_gd rr721.1 rfl
def rr722 := List.forall_mem_cons.mp rr721.2
theorem lk722 : (Jvm.Cond.methodLink "YawnRouteLaw" (27 : Nat) ({ cls := "YawnRoute", name := "station", desc := "(II)I" } : Jvm.MethodName)) ∈ lw_gd := mem_gd rr722.1 rfl
def rr723 := List.forall_mem_cons.mp rr722.2
theorem lk723 : (Jvm.Cond.instanceMethod ({ cls := "YawnRoute", name := "station", desc := "(II)I" } : Jvm.MethodName)) ∈ lw_gd := mem_gd rr723.1 rfl
def rr724 := List.forall_mem_cons.mp rr723.2
theorem lk724 : (Jvm.Cond.selects "YawnRoute" ({ cls := "YawnRoute", name := "station", desc := "(II)I" } : Jvm.MethodName) ({ cls := "YawnRoute", name := "station", desc := "(II)I" } : Jvm.MethodName)) ∈ lw_gd := mem_gd rr724.1 rfl
def rr725 := List.forall_mem_cons.mp rr724.2
theorem lk725 : (Jvm.Cond.code ({ cls := "YawnRoute", name := "station", desc := "(II)I" } : Jvm.MethodName) prog_1_method_5_code (3 : Nat) (Option.some Jvm.ClassFile.FieldType.int)) ∈ lw_gd := mem_gd rr725.1 rfl
def rr726 := List.forall_mem_cons.mp rr725.2
theorem lk726 : (Jvm.Cond.methodLink "YawnRoute" (127 : Nat) ({ cls := "YawnRoute$Net", name := "isStation", desc := "(I)Z" } : Jvm.MethodName)) ∈ lw_gd := mem_gd rr726.1 rfl
def rr727 := List.forall_mem_cons.mp rr726.2
theorem lk727 : (Jvm.Cond.methodLink "YawnRoute" (130 : Nat) ({ cls := "YawnRoute$State", name := "dullOf", desc := "(I)I" } : Jvm.MethodName)) ∈ lw_gd := mem_gd rr727.1 rfl
def rr728 := List.forall_mem_cons.mp rr727.2
theorem lk728 : (Jvm.Cond.instanceMethod ({ cls := "YawnRoute$State", name := "dullOf", desc := "(I)I" } : Jvm.MethodName)) ∈ lw_gd := mem_gd rr728.1 rfl
def rr729 := List.forall_mem_cons.mp rr728.2
theorem lk729 : (Jvm.Cond.selects "YawnRoute$State" ({ cls := "YawnRoute$State", name := "dullOf", desc := "(I)I" } : Jvm.MethodName) ({ cls := "YawnRoute$State", name := "dullOf", desc := "(I)I" } : Jvm.MethodName)) ∈ lw_gd := mem_gd rr729.1 rfl
def rr730 := List.forall_mem_cons.mp rr729.2
theorem lk730 : (Jvm.Cond.code ({ cls := "YawnRoute$State", name := "dullOf", desc := "(I)I" } : Jvm.MethodName) prog_9_method_5_code (2 : Nat) (Option.some Jvm.ClassFile.FieldType.int)) ∈ lw_gd := mem_gd rr730.1 rfl
def rr731 := List.forall_mem_cons.mp rr730.2
theorem lk731 : (Jvm.Cond.methodLink "YawnRoute" (138 : Nat) ({ cls := "YawnRoute$State", name := "isAsleep", desc := "(I)Z" } : Jvm.MethodName)) ∈ lw_gd := mem_gd rr731.1 rfl
def rr732 := List.forall_mem_cons.mp rr731.2
theorem lk732 : (Jvm.Cond.instanceMethod ({ cls := "YawnRoute$State", name := "isAsleep", desc := "(I)Z" } : Jvm.MethodName)) ∈ lw_gd := mem_gd rr732.1 rfl
def rr733 := List.forall_mem_cons.mp rr732.2
theorem lk733 : (Jvm.Cond.selects "YawnRoute$State" ({ cls := "YawnRoute$State", name := "isAsleep", desc := "(I)Z" } : Jvm.MethodName) ({ cls := "YawnRoute$State", name := "isAsleep", desc := "(I)Z" } : Jvm.MethodName)) ∈ lw_gd := mem_gd rr733.1 rfl
def rr734 := List.forall_mem_cons.mp rr733.2
theorem lk734 : (Jvm.Cond.code ({ cls := "YawnRoute$State", name := "isAsleep", desc := "(I)Z" } : Jvm.MethodName) prog_9_method_4_code (2 : Nat) (Option.some Jvm.ClassFile.FieldType.boolean)) ∈ lw_gd := mem_gd rr734.1 rfl
def rr735 := List.forall_mem_cons.mp rr734.2
theorem lk735 : (Jvm.Cond.methodLinkNest "YawnRoute$State" (40 : Nat) ({ cls := "YawnRoute", name := "has", desc := "(II)Z" } : Jvm.MethodName) "YawnRoute") ∈ lw_tbl := rr735.1
def rr736 := List.forall_mem_cons.mp rr735.2
theorem lk736 : (Jvm.Cond.static ({ cls := "YawnRoute", name := "has", desc := "(II)Z" } : Jvm.MethodName)) ∈ lw_gd := mem_gd rr736.1 rfl
def rr737 := List.forall_mem_cons.mp rr736.2
theorem lk737 : (Jvm.Cond.code ({ cls := "YawnRoute", name := "has", desc := "(II)Z" } : Jvm.MethodName) prog_1_method_52_code (2 : Nat) (Option.some Jvm.ClassFile.FieldType.boolean)) ∈ lw_gd := mem_gd rr737.1 rfl
def rr738 := List.forall_mem_cons.mp rr737.2
theorem lk738 : (Jvm.Cond.methodLink "YawnRoute" (141 : Nat) ({ cls := "YawnRoute$Net", name := "waysFrom", desc := "(I)I" } : Jvm.MethodName)) ∈ lw_gd := mem_gd rr738.1 rfl
def rr739 := List.forall_mem_cons.mp rr738.2
theorem lk739 : (Jvm.Cond.instanceMethod ({ cls := "YawnRoute$Net", name := "waysFrom", desc := "(I)I" } : Jvm.MethodName)) ∈ lw_gd := mem_gd rr739.1 rfl
def rr740 := List.forall_mem_cons.mp rr739.2
theorem lk740 : (Jvm.Cond.selects "YawnRoute$Net" ({ cls := "YawnRoute$Net", name := "waysFrom", desc := "(I)I" } : Jvm.MethodName) ({ cls := "YawnRoute$Net", name := "waysFrom", desc := "(I)I" } : Jvm.MethodName)) ∈ lw_gd := mem_gd rr740.1 rfl
def rr741 := List.forall_mem_cons.mp rr740.2
theorem lk741 : (Jvm.Cond.code ({ cls := "YawnRoute$Net", name := "waysFrom", desc := "(I)I" } : Jvm.MethodName) prog_4_method_8_code (4 : Nat) (Option.some Jvm.ClassFile.FieldType.int)) ∈ lw_gd := mem_gd rr741.1 rfl
def rr742 := List.forall_mem_cons.mp rr741.2
theorem lk742 : (Jvm.Cond.methodLink "YawnRoute$Net" (68 : Nat) ({ cls := "YawnRoute$Net", name := "hoursOf", desc := "(II)I" } : Jvm.MethodName)) ∈ lw_gd := mem_gd rr742.1 rfl
def rr743 := List.forall_mem_cons.mp rr742.2
theorem lk743 : (Jvm.Cond.instanceMethod ({ cls := "YawnRoute$Net", name := "hoursOf", desc := "(II)I" } : Jvm.MethodName)) ∈ lw_gd := mem_gd rr743.1 rfl
def rr744 := List.forall_mem_cons.mp rr743.2
theorem lk744 : (Jvm.Cond.selects "YawnRoute$Net" ({ cls := "YawnRoute$Net", name := "hoursOf", desc := "(II)I" } : Jvm.MethodName) ({ cls := "YawnRoute$Net", name := "hoursOf", desc := "(II)I" } : Jvm.MethodName)) ∈ lw_gd := mem_gd rr744.1 rfl
def rr745 := List.forall_mem_cons.mp rr744.2
theorem lk745 : (Jvm.Cond.code ({ cls := "YawnRoute$Net", name := "hoursOf", desc := "(II)I" } : Jvm.MethodName) prog_4_method_5_code (3 : Nat) (Option.some Jvm.ClassFile.FieldType.int)) ∈ lw_gd := mem_gd rr745.1 rfl
def rr746 := List.forall_mem_cons.mp rr745.2
theorem lk746 : (Jvm.Cond.methodLink "YawnRouteLaw" (32 : Nat) ({ cls := "YawnRoute", name := "way", desc := "(III)I" } : Jvm.MethodName)) ∈ lw_gd := mem_gd rr746.1 rfl
def rr747 := List.forall_mem_cons.mp rr746.2
theorem lk747 : (Jvm.Cond.instanceMethod ({ cls := "YawnRoute", name := "way", desc := "(III)I" } : Jvm.MethodName)) ∈ lw_gd := mem_gd rr747.1 rfl
def rr748 := List.forall_mem_cons.mp rr747.2
theorem lk748 : (Jvm.Cond.selects "YawnRoute" ({ cls := "YawnRoute", name := "way", desc := "(III)I" } : Jvm.MethodName) ({ cls := "YawnRoute", name := "way", desc := "(III)I" } : Jvm.MethodName)) ∈ lw_gd := mem_gd rr748.1 rfl
def rr749 := List.forall_mem_cons.mp rr748.2
theorem lk749 : (Jvm.Cond.code ({ cls := "YawnRoute", name := "way", desc := "(III)I" } : Jvm.MethodName) prog_1_method_6_code (4 : Nat) (Option.some Jvm.ClassFile.FieldType.int)) ∈ lw_gd := mem_gd rr749.1 rfl
def rr750 := List.forall_mem_cons.mp rr749.2
theorem lk750 : (Jvm.Cond.methodLink "YawnRoute" (147 : Nat) ({ cls := "YawnRoute$Net", name := "hoursOf", desc := "(II)I" } : Jvm.MethodName)) ∈ lw_gd := mem_gd rr750.1 rfl
def rr751 := List.forall_mem_cons.mp rr750.2
theorem lk751 : (Jvm.Cond.methodLink "YawnRoute" (151 : Nat) ({ cls := "YawnRoute$Net", name := "oddsOf", desc := "(II)I" } : Jvm.MethodName)) ∈ lw_gd := mem_gd rr751.1 rfl
def rr752 := List.forall_mem_cons.mp rr751.2
theorem lk752 : (Jvm.Cond.instanceMethod ({ cls := "YawnRoute$Net", name := "oddsOf", desc := "(II)I" } : Jvm.MethodName)) ∈ lw_gd := mem_gd rr752.1 rfl
def rr753 := List.forall_mem_cons.mp rr752.2
theorem lk753 : (Jvm.Cond.selects "YawnRoute$Net" ({ cls := "YawnRoute$Net", name := "oddsOf", desc := "(II)I" } : Jvm.MethodName) ({ cls := "YawnRoute$Net", name := "oddsOf", desc := "(II)I" } : Jvm.MethodName)) ∈ lw_gd := mem_gd rr753.1 rfl
def rr754 := List.forall_mem_cons.mp rr753.2
theorem lk754 : (Jvm.Cond.code ({ cls := "YawnRoute$Net", name := "oddsOf", desc := "(II)I" } : Jvm.MethodName) prog_4_method_6_code (3 : Nat) (Option.some Jvm.ClassFile.FieldType.int)) ∈ lw_gd := mem_gd rr754.1 rfl
def rr755 := List.forall_mem_cons.mp rr754.2
theorem lk755 : (Jvm.Cond.methodLink "YawnRouteLaw" (37 : Nat) ({ cls := "YawnRoute", name := "brings", desc := "(I)I" } : Jvm.MethodName)) ∈ lw_gd := mem_gd rr755.1 rfl
def rr756 := List.forall_mem_cons.mp rr755.2
theorem lk756 : (Jvm.Cond.instanceMethod ({ cls := "YawnRoute", name := "brings", desc := "(I)I" } : Jvm.MethodName)) ∈ lw_gd := mem_gd rr756.1 rfl
def rr757 := List.forall_mem_cons.mp rr756.2
theorem lk757 : (Jvm.Cond.selects "YawnRoute" ({ cls := "YawnRoute", name := "brings", desc := "(I)I" } : Jvm.MethodName) ({ cls := "YawnRoute", name := "brings", desc := "(I)I" } : Jvm.MethodName)) ∈ lw_gd := mem_gd rr757.1 rfl
def rr758 := List.forall_mem_cons.mp rr757.2
theorem lk758 : (Jvm.Cond.code ({ cls := "YawnRoute", name := "brings", desc := "(I)I" } : Jvm.MethodName) prog_1_method_7_code (3 : Nat) (Option.some Jvm.ClassFile.FieldType.int)) ∈ lw_gd := mem_gd rr758.1 rfl
def rr759 := List.forall_mem_cons.mp rr758.2
theorem lk759 : (Jvm.Cond.methodLink "YawnRoute" (154 : Nat) ({ cls := "YawnRoute$Deeds", name := "sizeAt", desc := "(I)I" } : Jvm.MethodName)) ∈ lw_gd := mem_gd rr759.1 rfl
def rr760 := List.forall_mem_cons.mp rr759.2
theorem lk760 : (Jvm.Cond.instanceMethod ({ cls := "YawnRoute$Deeds", name := "sizeAt", desc := "(I)I" } : Jvm.MethodName)) ∈ lw_gd := mem_gd rr760.1 rfl
def rr761 := List.forall_mem_cons.mp rr760.2
theorem lk761 : (Jvm.Cond.selects "YawnRoute$Deeds" ({ cls := "YawnRoute$Deeds", name := "sizeAt", desc := "(I)I" } : Jvm.MethodName) ({ cls := "YawnRoute$Deeds", name := "sizeAt", desc := "(I)I" } : Jvm.MethodName)) ∈ lw_gd := mem_gd rr761.1 rfl
def rr762 := List.forall_mem_cons.mp rr761.2
theorem lk762 : (Jvm.Cond.code ({ cls := "YawnRoute$Deeds", name := "sizeAt", desc := "(I)I" } : Jvm.MethodName) prog_2_method_6_code (2 : Nat) (Option.some Jvm.ClassFile.FieldType.int)) ∈ lw_gd := mem_gd rr762.1 rfl
def rr763 := List.forall_mem_cons.mp rr762.2
theorem lk763 : (Jvm.Cond.methodLink "YawnRoute$Deeds" (60 : Nat) ({ cls := "YawnRoute$State", name := "isAsleep", desc := "(I)Z" } : Jvm.MethodName)) ∈ lw_gd := mem_gd rr763.1 rfl
def rr764 := List.forall_mem_cons.mp rr763.2
theorem lk764 : (Jvm.Cond.methodLink "YawnRoute$Deeds" (67 : Nat) ({ cls := "YawnRoute$State", name := "dullOf", desc := "(I)I" } : Jvm.MethodName)) ∈ lw_gd := mem_gd rr764.1 rfl
def rr765 := List.forall_mem_cons.mp rr764.2
theorem lk765 : (Jvm.Cond.methodLink "YawnRoute$Deeds" (71 : Nat) ({ cls := "YawnRoute$Net", name := "carried", desc := "(IIII)I" } : Jvm.MethodName)) ∈ lw_gd := mem_gd rr765.1 rfl
def rr766 := List.forall_mem_cons.mp rr765.2
theorem lk766 : (Jvm.Cond.instanceMethod ({ cls := "YawnRoute$Net", name := "carried", desc := "(IIII)I" } : Jvm.MethodName)) ∈ lw_gd := mem_gd rr766.1 rfl
def rr767 := List.forall_mem_cons.mp rr766.2
theorem lk767 : (Jvm.Cond.selects "YawnRoute$Net" ({ cls := "YawnRoute$Net", name := "carried", desc := "(IIII)I" } : Jvm.MethodName) ({ cls := "YawnRoute$Net", name := "carried", desc := "(IIII)I" } : Jvm.MethodName)) ∈ lw_gd := mem_gd rr767.1 rfl
def rr768 := List.forall_mem_cons.mp rr767.2
theorem lk768 : (Jvm.Cond.code ({ cls := "YawnRoute$Net", name := "carried", desc := "(IIII)I" } : Jvm.MethodName) prog_4_method_11_code (6 : Nat) (Option.some Jvm.ClassFile.FieldType.int)) ∈ lw_gd := mem_gd rr768.1 rfl
def rr769 := List.forall_mem_cons.mp rr768.2
theorem lk769 : (Jvm.Cond.methodLink "YawnRoute$Net" (81 : Nat) ({ cls := "YawnRoute$Net", name := "valueOf", desc := "(II)I" } : Jvm.MethodName)) ∈ lw_gd := mem_gd rr769.1 rfl
def rr770 := List.forall_mem_cons.mp rr769.2
def rr771 := List.forall_mem_cons.mp rr770.2
theorem lk771 : (Jvm.Cond.instanceMethod ({ cls := "YawnRoute$Net", name := "valueOf", desc := "(II)I" } : Jvm.MethodName)) ∈ lw_gd := mem_gd rr771.1 rfl
def rr772 := List.forall_mem_cons.mp rr771.2
theorem lk772 : (Jvm.Cond.code ({ cls := "YawnRoute$Net", name := "valueOf", desc := "(II)I" } : Jvm.MethodName) prog_4_method_12_code (6 : Nat) (Option.some Jvm.ClassFile.FieldType.int)) ∈ lw_gd := mem_gd rr772.1 rfl
def rr773 := List.forall_mem_cons.mp rr772.2
theorem lk773 : (Jvm.Cond.methodLink "YawnRoute$Net" (92 : Nat) ({ cls := "YawnRoute$Net", name := "isValue", desc := "(I)Z" } : Jvm.MethodName)) ∈ lw_gd := mem_gd rr773.1 rfl
def rr774 := List.forall_mem_cons.mp rr773.2
theorem lk774 : (Jvm.Cond.static ({ cls := "YawnRoute$Net", name := "isValue", desc := "(I)Z" } : Jvm.MethodName)) ∈ lw_gd := mem_gd rr774.1 rfl
def rr775 := List.forall_mem_cons.mp rr774.2
theorem lk775 : (Jvm.Cond.code ({ cls := "YawnRoute$Net", name := "isValue", desc := "(I)Z" } : Jvm.MethodName) prog_4_method_13_code (1 : Nat) (Option.some Jvm.ClassFile.FieldType.boolean)) ∈ lw_gd := mem_gd rr775.1 rfl
def rr776 := List.forall_mem_cons.mp rr775.2
theorem lk776 : (Jvm.Cond.methodLink "YawnRoute$Net" (95 : Nat) ({ cls := "YawnRoute$Net", name := "joined", desc := "(III)I" } : Jvm.MethodName)) ∈ lw_gd := mem_gd rr776.1 rfl
def rr777 := List.forall_mem_cons.mp rr776.2
theorem lk777 : (Jvm.Cond.static ({ cls := "YawnRoute$Net", name := "joined", desc := "(III)I" } : Jvm.MethodName)) ∈ lw_gd := mem_gd rr777.1 rfl
def rr778 := List.forall_mem_cons.mp rr777.2
theorem lk778 : (Jvm.Cond.code ({ cls := "YawnRoute$Net", name := "joined", desc := "(III)I" } : Jvm.MethodName) prog_4_method_14_code (5 : Nat) (Option.some Jvm.ClassFile.FieldType.int)) ∈ lw_gd := mem_gd rr778.1 rfl
def rr779 := List.forall_mem_cons.mp rr778.2
theorem lk779 : (Jvm.Cond.constantLong "YawnRoute$Net" (99 : Nat) (1000000 : Int64)) ∈ lw_gd := mem_gd rr779.1 rfl
def rr780 := List.forall_mem_cons.mp rr779.2
theorem lk780 : (Jvm.Cond.constantLong "YawnRoute$Net" (101 : Nat) (-1000000 : Int64)) ∈ lw_gd := mem_gd rr780.1 rfl
def rr781 := List.forall_mem_cons.mp rr780.2
theorem lk781 : (Jvm.Cond.methodLink "YawnRoute$Net" (84 : Nat) ({ cls := "java/lang/Math", name := "min", desc := "(II)I" } : Jvm.MethodName)) ∈ lw_gd := mem_gd rr781.1 rfl
def rr782 := List.forall_mem_cons.mp rr781.2
theorem lk782 : (Jvm.Cond.methodLink "YawnRoute$Net" (89 : Nat) ({ cls := "java/lang/Math", name := "max", desc := "(II)I" } : Jvm.MethodName)) ∈ lw_gd := mem_gd rr782.1 rfl
def rr783 := List.forall_mem_cons.mp rr782.2
theorem lk783 : (Jvm.Cond.methodLink "YawnRouteLaw" (41 : Nat) ({ cls := "YawnRoute", name := "pass", desc := "(I)I" } : Jvm.MethodName)) ∈ lw_gd := mem_gd rr783.1 rfl
def rr784 := List.forall_mem_cons.mp rr783.2
theorem lk784 : (Jvm.Cond.instanceMethod ({ cls := "YawnRoute", name := "pass", desc := "(I)I" } : Jvm.MethodName)) ∈ lw_gd := mem_gd rr784.1 rfl
def rr785 := List.forall_mem_cons.mp rr784.2
theorem lk785 : (Jvm.Cond.selects "YawnRoute" ({ cls := "YawnRoute", name := "pass", desc := "(I)I" } : Jvm.MethodName) ({ cls := "YawnRoute", name := "pass", desc := "(I)I" } : Jvm.MethodName)) ∈ lw_gd := mem_gd rr785.1 rfl
def rr786 := List.forall_mem_cons.mp rr785.2
theorem lk786 : (Jvm.Cond.code ({ cls := "YawnRoute", name := "pass", desc := "(I)I" } : Jvm.MethodName) prog_1_method_8_code (3 : Nat) (Option.some Jvm.ClassFile.FieldType.int)) ∈ lw_gd := mem_gd rr786.1 rfl
def rr787 := List.forall_mem_cons.mp rr786.2
theorem lk787 : (Jvm.Cond.methodLink "YawnRoute" (157 : Nat) ({ cls := "YawnRoute$Deeds", name := "note", desc := "()V" } : Jvm.MethodName)) ∈ lw_gd := mem_gd rr787.1 rfl
def rr788 := List.forall_mem_cons.mp rr787.2
theorem lk788 : (Jvm.Cond.instanceMethod ({ cls := "YawnRoute$Deeds", name := "note", desc := "()V" } : Jvm.MethodName)) ∈ lw_gd := mem_gd rr788.1 rfl
def rr789 := List.forall_mem_cons.mp rr788.2
theorem lk789 : (Jvm.Cond.selects "YawnRoute$Deeds" ({ cls := "YawnRoute$Deeds", name := "note", desc := "()V" } : Jvm.MethodName) ({ cls := "YawnRoute$Deeds", name := "note", desc := "()V" } : Jvm.MethodName)) ∈ lw_gd := mem_gd rr789.1 rfl
def rr790 := List.forall_mem_cons.mp rr789.2
theorem lk790 : (Jvm.Cond.code ({ cls := "YawnRoute$Deeds", name := "note", desc := "()V" } : Jvm.MethodName) prog_2_method_2_code (1 : Nat) (Option.none : Option Jvm.ClassFile.FieldType)) ∈ lw_gd := mem_gd rr790.1 rfl
def rr791 := List.forall_mem_cons.mp rr790.2
theorem lk791 : (Jvm.Cond.methodLink "YawnRoute$Deeds" (41 : Nat) ({ cls := "YawnRoute$State", name := "copy", desc := "(LYawnRoute$State;)V" } : Jvm.MethodName)) ∈ lw_gd := mem_gd rr791.1 rfl
def rr792 := List.forall_mem_cons.mp rr791.2
theorem lk792 : (Jvm.Cond.methodLink "YawnRoute" (160 : Nat) ({ cls := "YawnRoute$Deeds", name := "tryPass", desc := "(LYawnRoute$State;I)I" } : Jvm.MethodName)) ∈ lw_gd := mem_gd rr792.1 rfl
def rr793 := List.forall_mem_cons.mp rr792.2
theorem lk793 : (Jvm.Cond.instanceMethod ({ cls := "YawnRoute$Deeds", name := "tryPass", desc := "(LYawnRoute$State;I)I" } : Jvm.MethodName)) ∈ lw_gd := mem_gd rr793.1 rfl
def rr794 := List.forall_mem_cons.mp rr793.2
theorem lk794 : (Jvm.Cond.selects "YawnRoute$Deeds" ({ cls := "YawnRoute$Deeds", name := "tryPass", desc := "(LYawnRoute$State;I)I" } : Jvm.MethodName) ({ cls := "YawnRoute$Deeds", name := "tryPass", desc := "(LYawnRoute$State;I)I" } : Jvm.MethodName)) ∈ lw_gd := mem_gd rr794.1 rfl
def rr795 := List.forall_mem_cons.mp rr794.2
theorem lk795 : (Jvm.Cond.code ({ cls := "YawnRoute$Deeds", name := "tryPass", desc := "(LYawnRoute$State;I)I" } : Jvm.MethodName) prog_2_method_7_code (5 : Nat) (Option.some Jvm.ClassFile.FieldType.int)) ∈ lw_gd := mem_gd rr795.1 rfl
def rr796 := List.forall_mem_cons.mp rr795.2
theorem lk796 : (Jvm.Cond.methodLink "YawnRoute$Deeds" (77 : Nat) ({ cls := "YawnRoute$Net", name := "isStation", desc := "(I)Z" } : Jvm.MethodName)) ∈ lw_gd := mem_gd rr796.1 rfl
def rr797 := List.forall_mem_cons.mp rr796.2
theorem lk797 : (Jvm.Cond.methodLink "YawnRoute$Deeds" (80 : Nat) ({ cls := "YawnRoute$Net", name := "hoursOf", desc := "(II)I" } : Jvm.MethodName)) ∈ lw_gd := mem_gd rr797.1 rfl
def rr798 := List.forall_mem_cons.mp rr797.2
theorem lk798 : (Jvm.Cond.methodLink "YawnRoute" (167 : Nat) ({ cls := "YawnRoute", name := "answered", desc := "(II)I" } : Jvm.MethodName)) ∈ lw_gd := mem_gd rr798.1 rfl
def rr799 := List.forall_mem_cons.mp rr798.2
def rr800 := List.forall_mem_cons.mp rr799.2
theorem lk800 : (Jvm.Cond.instanceMethod ({ cls := "YawnRoute", name := "answered", desc := "(II)I" } : Jvm.MethodName)) ∈ lw_gd := mem_gd rr800.1 rfl
def rr801 := List.forall_mem_cons.mp rr800.2
theorem lk801 : (Jvm.Cond.code ({ cls := "YawnRoute", name := "answered", desc := "(II)I" } : Jvm.MethodName) prog_1_method_45_code (3 : Nat) (Option.some Jvm.ClassFile.FieldType.int)) ∈ lw_gd := mem_gd rr801.1 rfl
def rr802 := List.forall_mem_cons.mp rr801.2
theorem lk802 : (Jvm.Cond.methodLink "YawnRoute" (210 : Nat) ({ cls := "YawnRoute$Deeds", name := "keep", desc := "()V" } : Jvm.MethodName)) ∈ lw_gd := mem_gd rr802.1 rfl
def rr803 := List.forall_mem_cons.mp rr802.2
theorem lk803 : (Jvm.Cond.instanceMethod ({ cls := "YawnRoute$Deeds", name := "keep", desc := "()V" } : Jvm.MethodName)) ∈ lw_gd := mem_gd rr803.1 rfl
def rr804 := List.forall_mem_cons.mp rr803.2
theorem lk804 : (Jvm.Cond.selects "YawnRoute$Deeds" ({ cls := "YawnRoute$Deeds", name := "keep", desc := "()V" } : Jvm.MethodName) ({ cls := "YawnRoute$Deeds", name := "keep", desc := "()V" } : Jvm.MethodName)) ∈ lw_gd := mem_gd rr804.1 rfl
def rr805 := List.forall_mem_cons.mp rr804.2
theorem lk805 : (Jvm.Cond.code ({ cls := "YawnRoute$Deeds", name := "keep", desc := "()V" } : Jvm.MethodName) prog_2_method_3_code (1 : Nat) (Option.none : Option Jvm.ClassFile.FieldType)) ∈ lw_gd := mem_gd rr805.1 rfl
def rr806 := List.forall_mem_cons.mp rr805.2
theorem lk806 : (Jvm.Cond.methodLink "YawnRoute$Deeds" (48 : Nat) ({ cls := "java/lang/Math", name := "min", desc := "(II)I" } : Jvm.MethodName)) ∈ lw_gd := mem_gd rr806.1 rfl
def rr807 := List.forall_mem_cons.mp rr806.2
theorem lk807 : (Jvm.Cond.methodLink "YawnRouteLaw" (45 : Nat) ({ cls := "YawnRoute", name := "off", desc := "(II)I" } : Jvm.MethodName)) ∈ lw_gd := mem_gd rr807.1 rfl
def rr808 := List.forall_mem_cons.mp rr807.2
theorem lk808 : (Jvm.Cond.instanceMethod ({ cls := "YawnRoute", name := "off", desc := "(II)I" } : Jvm.MethodName)) ∈ lw_gd := mem_gd rr808.1 rfl
def rr809 := List.forall_mem_cons.mp rr808.2
theorem lk809 : (Jvm.Cond.selects "YawnRoute" ({ cls := "YawnRoute", name := "off", desc := "(II)I" } : Jvm.MethodName) ({ cls := "YawnRoute", name := "off", desc := "(II)I" } : Jvm.MethodName)) ∈ lw_gd := mem_gd rr809.1 rfl
def rr810 := List.forall_mem_cons.mp rr809.2
theorem lk810 : (Jvm.Cond.code ({ cls := "YawnRoute", name := "off", desc := "(II)I" } : Jvm.MethodName) prog_1_method_9_code (4 : Nat) (Option.some Jvm.ClassFile.FieldType.int)) ∈ lw_gd := mem_gd rr810.1 rfl
def rr811 := List.forall_mem_cons.mp rr810.2
theorem lk811 : (Jvm.Cond.methodLink "YawnRoute" (170 : Nat) ({ cls := "YawnRoute$Deeds", name := "tryOff", desc := "(LYawnRoute$State;II)I" } : Jvm.MethodName)) ∈ lw_gd := mem_gd rr811.1 rfl
def rr812 := List.forall_mem_cons.mp rr811.2
theorem lk812 : (Jvm.Cond.instanceMethod ({ cls := "YawnRoute$Deeds", name := "tryOff", desc := "(LYawnRoute$State;II)I" } : Jvm.MethodName)) ∈ lw_gd := mem_gd rr812.1 rfl
def rr813 := List.forall_mem_cons.mp rr812.2
theorem lk813 : (Jvm.Cond.selects "YawnRoute$Deeds" ({ cls := "YawnRoute$Deeds", name := "tryOff", desc := "(LYawnRoute$State;II)I" } : Jvm.MethodName) ({ cls := "YawnRoute$Deeds", name := "tryOff", desc := "(LYawnRoute$State;II)I" } : Jvm.MethodName)) ∈ lw_gd := mem_gd rr813.1 rfl
def rr814 := List.forall_mem_cons.mp rr813.2
theorem lk814 : (Jvm.Cond.code ({ cls := "YawnRoute$Deeds", name := "tryOff", desc := "(LYawnRoute$State;II)I" } : Jvm.MethodName) prog_2_method_8_code (4 : Nat) (Option.some Jvm.ClassFile.FieldType.int)) ∈ lw_gd := mem_gd rr814.1 rfl
def rr815 := List.forall_mem_cons.mp rr814.2
theorem lk815 : (Jvm.Cond.methodLinkNest "YawnRoute$Deeds" (86 : Nat) ({ cls := "YawnRoute", name := "isSize", desc := "(I)Z" } : Jvm.MethodName) "YawnRoute") ∈ lw_tbl := rr815.1
def rr816 := List.forall_mem_cons.mp rr815.2
theorem lk816 : (Jvm.Cond.static ({ cls := "YawnRoute", name := "isSize", desc := "(I)Z" } : Jvm.MethodName)) ∈ lw_gd := mem_gd rr816.1 rfl
def rr817 := List.forall_mem_cons.mp rr816.2
theorem lk817 : (Jvm.Cond.code ({ cls := "YawnRoute", name := "isSize", desc := "(I)Z" } : Jvm.MethodName) prog_1_method_49_code (1 : Nat) (Option.some Jvm.ClassFile.FieldType.boolean)) ∈ lw_gd := mem_gd rr817.1 rfl
def rr818 := List.forall_mem_cons.mp rr817.2
theorem lk818 : (Jvm.Cond.methodLink "YawnRouteLaw" (49 : Nat) ({ cls := "YawnRoute", name := "sleep", desc := "(I)I" } : Jvm.MethodName)) ∈ lw_gd := mem_gd rr818.1 rfl
def rr819 := List.forall_mem_cons.mp rr818.2
theorem lk819 : (Jvm.Cond.instanceMethod ({ cls := "YawnRoute", name := "sleep", desc := "(I)I" } : Jvm.MethodName)) ∈ lw_gd := mem_gd rr819.1 rfl
def rr820 := List.forall_mem_cons.mp rr819.2
theorem lk820 : (Jvm.Cond.selects "YawnRoute" ({ cls := "YawnRoute", name := "sleep", desc := "(I)I" } : Jvm.MethodName) ({ cls := "YawnRoute", name := "sleep", desc := "(I)I" } : Jvm.MethodName)) ∈ lw_gd := mem_gd rr820.1 rfl
def rr821 := List.forall_mem_cons.mp rr820.2
theorem lk821 : (Jvm.Cond.code ({ cls := "YawnRoute", name := "sleep", desc := "(I)I" } : Jvm.MethodName) prog_1_method_10_code (3 : Nat) (Option.some Jvm.ClassFile.FieldType.int)) ∈ lw_gd := mem_gd rr821.1 rfl
def rr822 := List.forall_mem_cons.mp rr821.2
theorem lk822 : (Jvm.Cond.methodLink "YawnRoute" (177 : Nat) ({ cls := "YawnRoute$Deeds", name := "trySleep", desc := "(LYawnRoute$State;I)I" } : Jvm.MethodName)) ∈ lw_gd := mem_gd rr822.1 rfl
def rr823 := List.forall_mem_cons.mp rr822.2
theorem lk823 : (Jvm.Cond.instanceMethod ({ cls := "YawnRoute$Deeds", name := "trySleep", desc := "(LYawnRoute$State;I)I" } : Jvm.MethodName)) ∈ lw_gd := mem_gd rr823.1 rfl
def rr824 := List.forall_mem_cons.mp rr823.2
theorem lk824 : (Jvm.Cond.selects "YawnRoute$Deeds" ({ cls := "YawnRoute$Deeds", name := "trySleep", desc := "(LYawnRoute$State;I)I" } : Jvm.MethodName) ({ cls := "YawnRoute$Deeds", name := "trySleep", desc := "(LYawnRoute$State;I)I" } : Jvm.MethodName)) ∈ lw_gd := mem_gd rr824.1 rfl
def rr825 := List.forall_mem_cons.mp rr824.2
theorem lk825 : (Jvm.Cond.code ({ cls := "YawnRoute$Deeds", name := "trySleep", desc := "(LYawnRoute$State;I)I" } : Jvm.MethodName) prog_2_method_9_code (3 : Nat) (Option.some Jvm.ClassFile.FieldType.int)) ∈ lw_gd := mem_gd rr825.1 rfl
def rr826 := List.forall_mem_cons.mp rr825.2
theorem lk826 : (Jvm.Cond.methodLink "YawnRouteLaw" (53 : Nat) ({ cls := "YawnRoute", name := "dull", desc := "(II)I" } : Jvm.MethodName)) ∈ lw_gd := mem_gd rr826.1 rfl
def rr827 := List.forall_mem_cons.mp rr826.2
theorem lk827 : (Jvm.Cond.instanceMethod ({ cls := "YawnRoute", name := "dull", desc := "(II)I" } : Jvm.MethodName)) ∈ lw_gd := mem_gd rr827.1 rfl
def rr828 := List.forall_mem_cons.mp rr827.2
theorem lk828 : (Jvm.Cond.selects "YawnRoute" ({ cls := "YawnRoute", name := "dull", desc := "(II)I" } : Jvm.MethodName) ({ cls := "YawnRoute", name := "dull", desc := "(II)I" } : Jvm.MethodName)) ∈ lw_gd := mem_gd rr828.1 rfl
def rr829 := List.forall_mem_cons.mp rr828.2
theorem lk829 : (Jvm.Cond.code ({ cls := "YawnRoute", name := "dull", desc := "(II)I" } : Jvm.MethodName) prog_1_method_11_code (5 : Nat) (Option.some Jvm.ClassFile.FieldType.int)) ∈ lw_gd := mem_gd rr829.1 rfl
def rr830 := List.forall_mem_cons.mp rr829.2
theorem lk830 : (Jvm.Cond.methodLink "YawnRoute" (180 : Nat) ({ cls := "YawnRoute$Deeds", name := "tryDull", desc := "(LYawnRoute$State;II)I" } : Jvm.MethodName)) ∈ lw_gd := mem_gd rr830.1 rfl
def rr831 := List.forall_mem_cons.mp rr830.2
theorem lk831 : (Jvm.Cond.instanceMethod ({ cls := "YawnRoute$Deeds", name := "tryDull", desc := "(LYawnRoute$State;II)I" } : Jvm.MethodName)) ∈ lw_gd := mem_gd rr831.1 rfl
def rr832 := List.forall_mem_cons.mp rr831.2
theorem lk832 : (Jvm.Cond.selects "YawnRoute$Deeds" ({ cls := "YawnRoute$Deeds", name := "tryDull", desc := "(LYawnRoute$State;II)I" } : Jvm.MethodName) ({ cls := "YawnRoute$Deeds", name := "tryDull", desc := "(LYawnRoute$State;II)I" } : Jvm.MethodName)) ∈ lw_gd := mem_gd rr832.1 rfl
def rr833 := List.forall_mem_cons.mp rr832.2
theorem lk833 : (Jvm.Cond.code ({ cls := "YawnRoute$Deeds", name := "tryDull", desc := "(LYawnRoute$State;II)I" } : Jvm.MethodName) prog_2_method_10_code (4 : Nat) (Option.some Jvm.ClassFile.FieldType.int)) ∈ lw_gd := mem_gd rr833.1 rfl
def rr834 := List.forall_mem_cons.mp rr833.2
theorem lk834 : (Jvm.Cond.methodLink "YawnRoute$Deeds" (92 : Nat) ({ cls := "YawnRoute$State", name := "setDull", desc := "(II)V" } : Jvm.MethodName)) ∈ lw_gd := mem_gd rr834.1 rfl
def rr835 := List.forall_mem_cons.mp rr834.2
theorem lk835 : (Jvm.Cond.methodLink "YawnRouteLaw" (57 : Nat) ({ cls := "YawnRoute", name := "undo", desc := "(I)I" } : Jvm.MethodName)) ∈ lw_gd := mem_gd rr835.1 rfl
def rr836 := List.forall_mem_cons.mp rr835.2
theorem lk836 : (Jvm.Cond.instanceMethod ({ cls := "YawnRoute", name := "undo", desc := "(I)I" } : Jvm.MethodName)) ∈ lw_gd := mem_gd rr836.1 rfl
def rr837 := List.forall_mem_cons.mp rr836.2
theorem lk837 : (Jvm.Cond.selects "YawnRoute" ({ cls := "YawnRoute", name := "undo", desc := "(I)I" } : Jvm.MethodName) ({ cls := "YawnRoute", name := "undo", desc := "(I)I" } : Jvm.MethodName)) ∈ lw_gd := mem_gd rr837.1 rfl
def rr838 := List.forall_mem_cons.mp rr837.2
theorem lk838 : (Jvm.Cond.code ({ cls := "YawnRoute", name := "undo", desc := "(I)I" } : Jvm.MethodName) prog_1_method_12_code (2 : Nat) (Option.some Jvm.ClassFile.FieldType.int)) ∈ lw_gd := mem_gd rr838.1 rfl
def rr839 := List.forall_mem_cons.mp rr838.2
theorem lk839 : (Jvm.Cond.methodLink "YawnRoute" (186 : Nat) ({ cls := "YawnRoute$Deeds", name := "takeBack", desc := "(I)V" } : Jvm.MethodName)) ∈ lw_gd := mem_gd rr839.1 rfl
def rr840 := List.forall_mem_cons.mp rr839.2
theorem lk840 : (Jvm.Cond.instanceMethod ({ cls := "YawnRoute$Deeds", name := "takeBack", desc := "(I)V" } : Jvm.MethodName)) ∈ lw_gd := mem_gd rr840.1 rfl
def rr841 := List.forall_mem_cons.mp rr840.2
theorem lk841 : (Jvm.Cond.selects "YawnRoute$Deeds" ({ cls := "YawnRoute$Deeds", name := "takeBack", desc := "(I)V" } : Jvm.MethodName) ({ cls := "YawnRoute$Deeds", name := "takeBack", desc := "(I)V" } : Jvm.MethodName)) ∈ lw_gd := mem_gd rr841.1 rfl
def rr842 := List.forall_mem_cons.mp rr841.2
theorem lk842 : (Jvm.Cond.code ({ cls := "YawnRoute$Deeds", name := "takeBack", desc := "(I)V" } : Jvm.MethodName) prog_2_method_4_code (2 : Nat) (Option.none : Option Jvm.ClassFile.FieldType)) ∈ lw_gd := mem_gd rr842.1 rfl
def rr843 := List.forall_mem_cons.mp rr842.2
theorem lk843 : (Jvm.Cond.methodLink "YawnRoute$Deeds" (54 : Nat) ({ cls := "java/lang/Math", name := "floorMod", desc := "(II)I" } : Jvm.MethodName)) ∈ lw_gd := mem_gd rr843.1 rfl
def rr844 := List.forall_mem_cons.mp rr843.2
theorem lk844 : (Jvm.Cond.static ({ cls := "java/lang/Math", name := "floorMod", desc := "(II)I" } : Jvm.MethodName)) ∈ lw_gd := mem_gd rr844.1 rfl
def rr845 := List.forall_mem_cons.mp rr844.2
theorem lk845 : (Jvm.Cond.code ({ cls := "java/lang/Math", name := "floorMod", desc := "(II)I" } : Jvm.MethodName) prog_17_method_50_code (3 : Nat) (Option.some Jvm.ClassFile.FieldType.int)) ∈ lw_gd := mem_gd rr845.1 rfl
def rr846 := List.forall_mem_cons.mp rr845.2
theorem lk846 : (Jvm.Cond.methodLink "YawnRouteLaw" (61 : Nat) ({ cls := "YawnRoute", name := "judge", desc := "(II)I" } : Jvm.MethodName)) ∈ lw_gd := mem_gd rr846.1 rfl
def rr847 := List.forall_mem_cons.mp rr846.2
theorem lk847 : (Jvm.Cond.instanceMethod ({ cls := "YawnRoute", name := "judge", desc := "(II)I" } : Jvm.MethodName)) ∈ lw_gd := mem_gd rr847.1 rfl
def rr848 := List.forall_mem_cons.mp rr847.2
theorem lk848 : (Jvm.Cond.selects "YawnRoute" ({ cls := "YawnRoute", name := "judge", desc := "(II)I" } : Jvm.MethodName) ({ cls := "YawnRoute", name := "judge", desc := "(II)I" } : Jvm.MethodName)) ∈ lw_gd := mem_gd rr848.1 rfl
def rr849 := List.forall_mem_cons.mp rr848.2
theorem lk849 : (Jvm.Cond.code ({ cls := "YawnRoute", name := "judge", desc := "(II)I" } : Jvm.MethodName) prog_1_method_13_code (4 : Nat) (Option.some Jvm.ClassFile.FieldType.int)) ∈ lw_gd := mem_gd rr849.1 rfl
def rr850 := List.forall_mem_cons.mp rr849.2
theorem lk850 : (Jvm.Cond.methodLink "YawnRoute" (189 : Nat) ({ cls := "YawnRoute$Trays", name := "isTray", desc := "(I)Z" } : Jvm.MethodName)) ∈ lw_gd := mem_gd rr850.1 rfl
def rr851 := List.forall_mem_cons.mp rr850.2
theorem lk851 : (Jvm.Cond.instanceMethod ({ cls := "YawnRoute$Trays", name := "isTray", desc := "(I)Z" } : Jvm.MethodName)) ∈ lw_gd := mem_gd rr851.1 rfl
def rr852 := List.forall_mem_cons.mp rr851.2
theorem lk852 : (Jvm.Cond.selects "YawnRoute$Trays" ({ cls := "YawnRoute$Trays", name := "isTray", desc := "(I)Z" } : Jvm.MethodName) ({ cls := "YawnRoute$Trays", name := "isTray", desc := "(I)Z" } : Jvm.MethodName)) ∈ lw_gd := mem_gd rr852.1 rfl
def rr853 := List.forall_mem_cons.mp rr852.2
theorem lk853 : (Jvm.Cond.code ({ cls := "YawnRoute$Trays", name := "isTray", desc := "(I)Z" } : Jvm.MethodName) prog_12_method_2_code (2 : Nat) (Option.some Jvm.ClassFile.FieldType.boolean)) ∈ lw_gd := mem_gd rr853.1 rfl
def rr854 := List.forall_mem_cons.mp rr853.2
theorem lk854 : (Jvm.Cond.methodLink "YawnRoute" (192 : Nat) ({ cls := "YawnRoute$Trays", name := "isMissing", desc := "(I)Z" } : Jvm.MethodName)) ∈ lw_gd := mem_gd rr854.1 rfl
def rr855 := List.forall_mem_cons.mp rr854.2
theorem lk855 : (Jvm.Cond.instanceMethod ({ cls := "YawnRoute$Trays", name := "isMissing", desc := "(I)Z" } : Jvm.MethodName)) ∈ lw_gd := mem_gd rr855.1 rfl
def rr856 := List.forall_mem_cons.mp rr855.2
theorem lk856 : (Jvm.Cond.selects "YawnRoute$Trays" ({ cls := "YawnRoute$Trays", name := "isMissing", desc := "(I)Z" } : Jvm.MethodName) ({ cls := "YawnRoute$Trays", name := "isMissing", desc := "(I)Z" } : Jvm.MethodName)) ∈ lw_gd := mem_gd rr856.1 rfl
def rr857 := List.forall_mem_cons.mp rr856.2
theorem lk857 : (Jvm.Cond.code ({ cls := "YawnRoute$Trays", name := "isMissing", desc := "(I)Z" } : Jvm.MethodName) prog_12_method_3_code (2 : Nat) (Option.some Jvm.ClassFile.FieldType.boolean)) ∈ lw_gd := mem_gd rr857.1 rfl
def rr858 := List.forall_mem_cons.mp rr857.2
theorem lk858 : (Jvm.Cond.methodLink "YawnRoute$Trays" (23 : Nat) ({ cls := "YawnRoute$Trays", name := "isTray", desc := "(I)Z" } : Jvm.MethodName)) ∈ lw_gd := mem_gd rr858.1 rfl
def rr859 := List.forall_mem_cons.mp rr858.2
theorem lk859 : (Jvm.Cond.methodLink "YawnRoute" (195 : Nat) ({ cls := "YawnRoute$Deeds", name := "tryOut", desc := "(I)I" } : Jvm.MethodName)) ∈ lw_gd := mem_gd rr859.1 rfl
def rr860 := List.forall_mem_cons.mp rr859.2
theorem lk860 : (Jvm.Cond.instanceMethod ({ cls := "YawnRoute$Deeds", name := "tryOut", desc := "(I)I" } : Jvm.MethodName)) ∈ lw_gd := mem_gd rr860.1 rfl
def rr861 := List.forall_mem_cons.mp rr860.2
theorem lk861 : (Jvm.Cond.selects "YawnRoute$Deeds" ({ cls := "YawnRoute$Deeds", name := "tryOut", desc := "(I)I" } : Jvm.MethodName) ({ cls := "YawnRoute$Deeds", name := "tryOut", desc := "(I)I" } : Jvm.MethodName)) ∈ lw_gd := mem_gd rr861.1 rfl
def rr862 := List.forall_mem_cons.mp rr861.2
theorem lk862 : (Jvm.Cond.code ({ cls := "YawnRoute$Deeds", name := "tryOut", desc := "(I)I" } : Jvm.MethodName) prog_2_method_12_code (2 : Nat) (Option.some Jvm.ClassFile.FieldType.int)) ∈ lw_gd := mem_gd rr862.1 rfl
def rr863 := List.forall_mem_cons.mp rr862.2
theorem lk863 : (Jvm.Cond.methodLink "YawnRoute$Deeds" (112 : Nat) ({ cls := "YawnRoute$Deeds", name := "tryAll", desc := "(LYawnRoute$State;I)I" } : Jvm.MethodName)) ∈ lw_gd := mem_gd rr863.1 rfl
def rr864 := List.forall_mem_cons.mp rr863.2
theorem lk864 : (Jvm.Cond.instanceMethod ({ cls := "YawnRoute$Deeds", name := "tryAll", desc := "(LYawnRoute$State;I)I" } : Jvm.MethodName)) ∈ lw_gd := mem_gd rr864.1 rfl
def rr865 := List.forall_mem_cons.mp rr864.2
theorem lk865 : (Jvm.Cond.selects "YawnRoute$Deeds" ({ cls := "YawnRoute$Deeds", name := "tryAll", desc := "(LYawnRoute$State;I)I" } : Jvm.MethodName) ({ cls := "YawnRoute$Deeds", name := "tryAll", desc := "(LYawnRoute$State;I)I" } : Jvm.MethodName)) ∈ lw_gd := mem_gd rr865.1 rfl
def rr866 := List.forall_mem_cons.mp rr865.2
theorem lk866 : (Jvm.Cond.code ({ cls := "YawnRoute$Deeds", name := "tryAll", desc := "(LYawnRoute$State;I)I" } : Jvm.MethodName) prog_2_method_11_code (6 : Nat) (Option.some Jvm.ClassFile.FieldType.int)) ∈ lw_gd := mem_gd rr866.1 rfl
def rr867 := List.forall_mem_cons.mp rr866.2
theorem lk867 : (Jvm.Cond.methodLink "YawnRoute$Deeds" (96 : Nat) ({ cls := "YawnRoute$Trays", name := "lengthOf", desc := "(I)I" } : Jvm.MethodName)) ∈ lw_gd := mem_gd rr867.1 rfl
def rr868 := List.forall_mem_cons.mp rr867.2
theorem lk868 : (Jvm.Cond.instanceMethod ({ cls := "YawnRoute$Trays", name := "lengthOf", desc := "(I)I" } : Jvm.MethodName)) ∈ lw_gd := mem_gd rr868.1 rfl
def rr869 := List.forall_mem_cons.mp rr868.2
theorem lk869 : (Jvm.Cond.selects "YawnRoute$Trays" ({ cls := "YawnRoute$Trays", name := "lengthOf", desc := "(I)I" } : Jvm.MethodName) ({ cls := "YawnRoute$Trays", name := "lengthOf", desc := "(I)I" } : Jvm.MethodName)) ∈ lw_gd := mem_gd rr869.1 rfl
def rr870 := List.forall_mem_cons.mp rr869.2
theorem lk870 : (Jvm.Cond.code ({ cls := "YawnRoute$Trays", name := "lengthOf", desc := "(I)I" } : Jvm.MethodName) prog_12_method_4_code (2 : Nat) (Option.some Jvm.ClassFile.FieldType.int)) ∈ lw_gd := mem_gd rr870.1 rfl
def rr871 := List.forall_mem_cons.mp rr870.2
theorem lk871 : (Jvm.Cond.methodLink "YawnRoute$Deeds" (104 : Nat) ({ cls := "YawnRoute$Trays", name := "numberAt", desc := "(II)J" } : Jvm.MethodName)) ∈ lw_gd := mem_gd rr871.1 rfl
def rr872 := List.forall_mem_cons.mp rr871.2
theorem lk872 : (Jvm.Cond.instanceMethod ({ cls := "YawnRoute$Trays", name := "numberAt", desc := "(II)J" } : Jvm.MethodName)) ∈ lw_gd := mem_gd rr872.1 rfl
def rr873 := List.forall_mem_cons.mp rr872.2
theorem lk873 : (Jvm.Cond.selects "YawnRoute$Trays" ({ cls := "YawnRoute$Trays", name := "numberAt", desc := "(II)J" } : Jvm.MethodName) ({ cls := "YawnRoute$Trays", name := "numberAt", desc := "(II)J" } : Jvm.MethodName)) ∈ lw_gd := mem_gd rr873.1 rfl
def rr874 := List.forall_mem_cons.mp rr873.2
theorem lk874 : (Jvm.Cond.code ({ cls := "YawnRoute$Trays", name := "numberAt", desc := "(II)J" } : Jvm.MethodName) prog_12_method_7_code (3 : Nat) (Option.some Jvm.ClassFile.FieldType.long)) ∈ lw_gd := mem_gd rr874.1 rfl
def rr875 := List.forall_mem_cons.mp rr874.2
theorem lk875 : (Jvm.Cond.methodLink "YawnRoute$Deeds" (108 : Nat) ({ cls := "YawnRoute$Deeds", name := "tryDeed", desc := "(LYawnRoute$State;J)I" } : Jvm.MethodName)) ∈ lw_gd := mem_gd rr875.1 rfl
def rr876 := List.forall_mem_cons.mp rr875.2
def rr877 := List.forall_mem_cons.mp rr876.2
theorem lk877 : (Jvm.Cond.instanceMethod ({ cls := "YawnRoute$Deeds", name := "tryDeed", desc := "(LYawnRoute$State;J)I" } : Jvm.MethodName)) ∈ lw_gd := mem_gd rr877.1 rfl
def rr878 := List.forall_mem_cons.mp rr877.2
theorem lk878 : (Jvm.Cond.code ({ cls := "YawnRoute$Deeds", name := "tryDeed", desc := "(LYawnRoute$State;J)I" } : Jvm.MethodName) prog_2_method_13_code (5 : Nat) (Option.some Jvm.ClassFile.FieldType.int)) ∈ lw_gd := mem_gd rr878.1 rfl
def rr879 := List.forall_mem_cons.mp rr878.2
theorem lk879 : (Jvm.Cond.constantLong "YawnRoute$Deeds" (116 : Nat) (1999 : Int64)) ∈ lw_gd := mem_gd rr879.1 rfl
def rr880 := List.forall_mem_cons.mp rr879.2
theorem lk880 : (Jvm.Cond.methodLink "YawnRoute$Deeds" (118 : Nat) ({ cls := "YawnRoute$Deeds", name := "tryPass", desc := "(LYawnRoute$State;I)I" } : Jvm.MethodName)) ∈ lw_gd := mem_gd rr880.1 rfl
def rr881 := List.forall_mem_cons.mp rr880.2
theorem lk881 : (Jvm.Cond.methodLink "YawnRoute$Deeds" (121 : Nat) ({ cls := "YawnRoute$Deeds", name := "trySleep", desc := "(LYawnRoute$State;I)I" } : Jvm.MethodName)) ∈ lw_gd := mem_gd rr881.1 rfl
def rr882 := List.forall_mem_cons.mp rr881.2
theorem lk882 : (Jvm.Cond.methodLink "YawnRoute$Deeds" (124 : Nat) ({ cls := "YawnRoute$Deeds", name := "tryOff", desc := "(LYawnRoute$State;II)I" } : Jvm.MethodName)) ∈ lw_gd := mem_gd rr882.1 rfl
def rr883 := List.forall_mem_cons.mp rr882.2
theorem lk883 : (Jvm.Cond.methodLink "YawnRoute$Deeds" (128 : Nat) ({ cls := "YawnRoute$Deeds", name := "tryDull", desc := "(LYawnRoute$State;II)I" } : Jvm.MethodName)) ∈ lw_gd := mem_gd rr883.1 rfl
def rr884 := List.forall_mem_cons.mp rr883.2
theorem lk884 : (Jvm.Cond.methodLink "YawnRoute" (198 : Nat) ({ cls := "YawnRoute$Trays", name := "lengthOf", desc := "(I)I" } : Jvm.MethodName)) ∈ lw_gd := mem_gd rr884.1 rfl
def rr885 := List.forall_mem_cons.mp rr884.2
theorem lk885 : (Jvm.Cond.methodLink "YawnRouteLaw" (65 : Nat) ({ cls := "YawnRoute", name := "perform", desc := "(I)I" } : Jvm.MethodName)) ∈ lw_gd := mem_gd rr885.1 rfl
def rr886 := List.forall_mem_cons.mp rr885.2
theorem lk886 : (Jvm.Cond.instanceMethod ({ cls := "YawnRoute", name := "perform", desc := "(I)I" } : Jvm.MethodName)) ∈ lw_gd := mem_gd rr886.1 rfl
def rr887 := List.forall_mem_cons.mp rr886.2
theorem lk887 : (Jvm.Cond.selects "YawnRoute" ({ cls := "YawnRoute", name := "perform", desc := "(I)I" } : Jvm.MethodName) ({ cls := "YawnRoute", name := "perform", desc := "(I)I" } : Jvm.MethodName)) ∈ lw_gd := mem_gd rr887.1 rfl
def rr888 := List.forall_mem_cons.mp rr887.2
theorem lk888 : (Jvm.Cond.code ({ cls := "YawnRoute", name := "perform", desc := "(I)I" } : Jvm.MethodName) prog_1_method_14_code (3 : Nat) (Option.some Jvm.ClassFile.FieldType.int)) ∈ lw_gd := mem_gd rr888.1 rfl
def rr889 := List.forall_mem_cons.mp rr888.2
theorem lk889 : (Jvm.Cond.methodLink "YawnRoute" (207 : Nat) ({ cls := "YawnRoute$Deeds", name := "tryAll", desc := "(LYawnRoute$State;I)I" } : Jvm.MethodName)) ∈ lw_gd := mem_gd rr889.1 rfl
def rr890 := List.forall_mem_cons.mp rr889.2
theorem lk890 : (Jvm.Cond.methodLink "YawnRouteLaw" (69 : Nat) ({ cls := "YawnRoute", name := "season", desc := "(II)I" } : Jvm.MethodName)) ∈ lw_gd := mem_gd rr890.1 rfl
def rr891 := List.forall_mem_cons.mp rr890.2
theorem lk891 : (Jvm.Cond.instanceMethod ({ cls := "YawnRoute", name := "season", desc := "(II)I" } : Jvm.MethodName)) ∈ lw_gd := mem_gd rr891.1 rfl
def rr892 := List.forall_mem_cons.mp rr891.2
theorem lk892 : (Jvm.Cond.selects "YawnRoute" ({ cls := "YawnRoute", name := "season", desc := "(II)I" } : Jvm.MethodName) ({ cls := "YawnRoute", name := "season", desc := "(II)I" } : Jvm.MethodName)) ∈ lw_gd := mem_gd rr892.1 rfl
def rr893 := List.forall_mem_cons.mp rr892.2
theorem lk893 : (Jvm.Cond.code ({ cls := "YawnRoute", name := "season", desc := "(II)I" } : Jvm.MethodName) prog_1_method_15_code (4 : Nat) (Option.some Jvm.ClassFile.FieldType.int)) ∈ lw_gd := mem_gd rr893.1 rfl
def rr894 := List.forall_mem_cons.mp rr893.2
theorem lk894 : (Jvm.Cond.methodLink "YawnRoute" (213 : Nat) ({ cls := "YawnRoute$Deeds", name := "trySeason", desc := "(II)I" } : Jvm.MethodName)) ∈ lw_gd := mem_gd rr894.1 rfl
def rr895 := List.forall_mem_cons.mp rr894.2
theorem lk895 : (Jvm.Cond.instanceMethod ({ cls := "YawnRoute$Deeds", name := "trySeason", desc := "(II)I" } : Jvm.MethodName)) ∈ lw_gd := mem_gd rr895.1 rfl
def rr896 := List.forall_mem_cons.mp rr895.2
theorem lk896 : (Jvm.Cond.selects "YawnRoute$Deeds" ({ cls := "YawnRoute$Deeds", name := "trySeason", desc := "(II)I" } : Jvm.MethodName) ({ cls := "YawnRoute$Deeds", name := "trySeason", desc := "(II)I" } : Jvm.MethodName)) ∈ lw_gd := mem_gd rr896.1 rfl
def rr897 := List.forall_mem_cons.mp rr896.2
theorem lk897 : (Jvm.Cond.code ({ cls := "YawnRoute$Deeds", name := "trySeason", desc := "(II)I" } : Jvm.MethodName) prog_2_method_14_code (5 : Nat) (Option.some Jvm.ClassFile.FieldType.int)) ∈ lw_gd := mem_gd rr897.1 rfl
def rr898 := List.forall_mem_cons.mp rr897.2
theorem lk898 : (Jvm.Cond.methodLink "YawnRoute$Deeds" (134 : Nat) ({ cls := "YawnRoute$Deeds", name := "tryDrawn", desc := "()I" } : Jvm.MethodName)) ∈ lw_gd := mem_gd rr898.1 rfl
def rr899 := List.forall_mem_cons.mp rr898.2
def rr900 := List.forall_mem_cons.mp rr899.2
theorem lk900 : (Jvm.Cond.instanceMethod ({ cls := "YawnRoute$Deeds", name := "tryDrawn", desc := "()I" } : Jvm.MethodName)) ∈ lw_gd := mem_gd rr900.1 rfl
def rr901 := List.forall_mem_cons.mp rr900.2
theorem lk901 : (Jvm.Cond.code ({ cls := "YawnRoute$Deeds", name := "tryDrawn", desc := "()I" } : Jvm.MethodName) prog_2_method_15_code (3 : Nat) (Option.some Jvm.ClassFile.FieldType.int)) ∈ lw_gd := mem_gd rr901.1 rfl
def rr902 := List.forall_mem_cons.mp rr901.2
theorem lk902 : (Jvm.Cond.methodLink "YawnRoute$Deeds" (138 : Nat) ({ cls := "YawnRoute$Deeds", name := "draw", desc := "()I" } : Jvm.MethodName)) ∈ lw_gd := mem_gd rr902.1 rfl
def rr903 := List.forall_mem_cons.mp rr902.2
def rr904 := List.forall_mem_cons.mp rr903.2
theorem lk904 : (Jvm.Cond.instanceMethod ({ cls := "YawnRoute$Deeds", name := "draw", desc := "()I" } : Jvm.MethodName)) ∈ lw_gd := mem_gd rr904.1 rfl
def rr905 := List.forall_mem_cons.mp rr904.2
theorem lk905 : (Jvm.Cond.code ({ cls := "YawnRoute$Deeds", name := "draw", desc := "()I" } : Jvm.MethodName) prog_2_method_16_code (1 : Nat) (Option.some Jvm.ClassFile.FieldType.int)) ∈ lw_gd := mem_gd rr905.1 rfl
def rr906 := List.forall_mem_cons.mp rr905.2
theorem lk906 : (Jvm.Cond.constant "YawnRoute$Deeds" (141 : Nat) (1103515245 : Int32)) ∈ lw_gd := mem_gd rr906.1 rfl
def rr907 := List.forall_mem_cons.mp rr906.2
theorem lk907 : (Jvm.Cond.methodLink "YawnRouteLaw" (73 : Nat) ({ cls := "YawnRoute", name := "soonest", desc := "(II)I" } : Jvm.MethodName)) ∈ lw_gd := mem_gd rr907.1 rfl
def rr908 := List.forall_mem_cons.mp rr907.2
theorem lk908 : (Jvm.Cond.instanceMethod ({ cls := "YawnRoute", name := "soonest", desc := "(II)I" } : Jvm.MethodName)) ∈ lw_gd := mem_gd rr908.1 rfl
def rr909 := List.forall_mem_cons.mp rr908.2
theorem lk909 : (Jvm.Cond.selects "YawnRoute" ({ cls := "YawnRoute", name := "soonest", desc := "(II)I" } : Jvm.MethodName) ({ cls := "YawnRoute", name := "soonest", desc := "(II)I" } : Jvm.MethodName)) ∈ lw_gd := mem_gd rr909.1 rfl
def rr910 := List.forall_mem_cons.mp rr909.2
theorem lk910 : (Jvm.Cond.code ({ cls := "YawnRoute", name := "soonest", desc := "(II)I" } : Jvm.MethodName) prog_1_method_16_code (4 : Nat) (Option.some Jvm.ClassFile.FieldType.int)) ∈ lw_gd := mem_gd rr910.1 rfl
def rr911 := List.forall_mem_cons.mp rr910.2
theorem lk911 : (Jvm.Cond.methodLink "YawnRoute" (216 : Nat) ({ cls := "YawnRoute", name := "isSize", desc := "(I)Z" } : Jvm.MethodName)) ∈ lw_gd := mem_gd rr911.1 rfl
def rr912 := List.forall_mem_cons.mp rr911.2
theorem lk912 : (Jvm.Cond.methodLink "YawnRoute" (219 : Nat) ({ cls := "YawnRoute", name := "refusal", desc := "(ZZ)I" } : Jvm.MethodName)) ∈ lw_gd := mem_gd rr912.1 rfl
def rr913 := List.forall_mem_cons.mp rr912.2
def rr914 := List.forall_mem_cons.mp rr913.2
theorem lk914 : (Jvm.Cond.instanceMethod ({ cls := "YawnRoute", name := "refusal", desc := "(ZZ)I" } : Jvm.MethodName)) ∈ lw_gd := mem_gd rr914.1 rfl
def rr915 := List.forall_mem_cons.mp rr914.2
theorem lk915 : (Jvm.Cond.code ({ cls := "YawnRoute", name := "refusal", desc := "(ZZ)I" } : Jvm.MethodName) prog_1_method_46_code (3 : Nat) (Option.some Jvm.ClassFile.FieldType.int)) ∈ lw_gd := mem_gd rr915.1 rfl
def rr916 := List.forall_mem_cons.mp rr915.2
theorem lk916 : (Jvm.Cond.methodLink "YawnRoute" (223 : Nat) ({ cls := "YawnRoute$Routes", name := "seek", desc := "(IIZ)Z" } : Jvm.MethodName)) ∈ lw_gd := mem_gd rr916.1 rfl
def rr917 := List.forall_mem_cons.mp rr916.2
theorem lk917 : (Jvm.Cond.instanceMethod ({ cls := "YawnRoute$Routes", name := "seek", desc := "(IIZ)Z" } : Jvm.MethodName)) ∈ lw_gd := mem_gd rr917.1 rfl
def rr918 := List.forall_mem_cons.mp rr917.2
theorem lk918 : (Jvm.Cond.selects "YawnRoute$Routes" ({ cls := "YawnRoute$Routes", name := "seek", desc := "(IIZ)Z" } : Jvm.MethodName) ({ cls := "YawnRoute$Routes", name := "seek", desc := "(IIZ)Z" } : Jvm.MethodName)) ∈ lw_gd := mem_gd rr918.1 rfl
def rr919 := List.forall_mem_cons.mp rr918.2
theorem lk919 : (Jvm.Cond.code ({ cls := "YawnRoute$Routes", name := "seek", desc := "(IIZ)Z" } : Jvm.MethodName) prog_7_method_2_code (6 : Nat) (Option.some Jvm.ClassFile.FieldType.boolean)) ∈ lw_gd := mem_gd rr919.1 rfl
def rr920 := List.forall_mem_cons.mp rr919.2
theorem lk920 : (Jvm.Cond.methodLink "YawnRoute$Routes" (31 : Nat) ({ cls := "YawnRoute$State", name := "place", desc := "()I" } : Jvm.MethodName)) ∈ lw_gd := mem_gd rr920.1 rfl
def rr921 := List.forall_mem_cons.mp rr920.2
theorem lk921 : (Jvm.Cond.instanceMethod ({ cls := "YawnRoute$State", name := "place", desc := "()I" } : Jvm.MethodName)) ∈ lw_gd := mem_gd rr921.1 rfl
def rr922 := List.forall_mem_cons.mp rr921.2
theorem lk922 : (Jvm.Cond.selects "YawnRoute$State" ({ cls := "YawnRoute$State", name := "place", desc := "()I" } : Jvm.MethodName) ({ cls := "YawnRoute$State", name := "place", desc := "()I" } : Jvm.MethodName)) ∈ lw_gd := mem_gd rr922.1 rfl
def rr923 := List.forall_mem_cons.mp rr922.2
theorem lk923 : (Jvm.Cond.code ({ cls := "YawnRoute$State", name := "place", desc := "()I" } : Jvm.MethodName) prog_9_method_7_code (1 : Nat) (Option.some Jvm.ClassFile.FieldType.int)) ∈ lw_gd := mem_gd rr923.1 rfl
def rr924 := List.forall_mem_cons.mp rr923.2
theorem lk924 : (Jvm.Cond.methodLinkNest "YawnRoute$State" (44 : Nat) ({ cls := "YawnRoute", name := "placeOf", desc := "(II)I" } : Jvm.MethodName) "YawnRoute") ∈ lw_tbl := rr924.1
def rr925 := List.forall_mem_cons.mp rr924.2
theorem lk925 : (Jvm.Cond.static ({ cls := "YawnRoute", name := "placeOf", desc := "(II)I" } : Jvm.MethodName)) ∈ lw_gd := mem_gd rr925.1 rfl
def rr926 := List.forall_mem_cons.mp rr925.2
theorem lk926 : (Jvm.Cond.code ({ cls := "YawnRoute", name := "placeOf", desc := "(II)I" } : Jvm.MethodName) prog_1_method_53_code (2 : Nat) (Option.some Jvm.ClassFile.FieldType.int)) ∈ lw_gd := mem_gd rr926.1 rfl
def rr927 := List.forall_mem_cons.mp rr926.2
theorem lk927 : (Jvm.Cond.methodLink "YawnRoute$Routes" (41 : Nat) ({ cls := "YawnRoute$Passings", name := "explore", desc := "(II)V" } : Jvm.MethodName)) ∈ lw_gd := mem_gd rr927.1 rfl
def rr928 := List.forall_mem_cons.mp rr927.2
theorem lk928 : (Jvm.Cond.instanceMethod ({ cls := "YawnRoute$Passings", name := "explore", desc := "(II)V" } : Jvm.MethodName)) ∈ lw_gd := mem_gd rr928.1 rfl
def rr929 := List.forall_mem_cons.mp rr928.2
theorem lk929 : (Jvm.Cond.selects "YawnRoute$Passings" ({ cls := "YawnRoute$Passings", name := "explore", desc := "(II)V" } : Jvm.MethodName) ({ cls := "YawnRoute$Passings", name := "explore", desc := "(II)V" } : Jvm.MethodName)) ∈ lw_gd := mem_gd rr929.1 rfl
def rr930 := List.forall_mem_cons.mp rr929.2
theorem lk930 : (Jvm.Cond.code ({ cls := "YawnRoute$Passings", name := "explore", desc := "(II)V" } : Jvm.MethodName) prog_6_method_4_code (6 : Nat) (Option.none : Option Jvm.ClassFile.FieldType)) ∈ lw_gd := mem_gd rr930.1 rfl
def rr931 := List.forall_mem_cons.mp rr930.2
theorem lk931 : (Jvm.Cond.methodLink "YawnRoute$Passings" (52 : Nat) ({ cls := "YawnRoute$Passings", name := "refresh", desc := "()V" } : Jvm.MethodName)) ∈ lw_gd := mem_gd rr931.1 rfl
def rr932 := List.forall_mem_cons.mp rr931.2
def rr933 := List.forall_mem_cons.mp rr932.2
theorem lk933 : (Jvm.Cond.instanceMethod ({ cls := "YawnRoute$Passings", name := "refresh", desc := "()V" } : Jvm.MethodName)) ∈ lw_gd := mem_gd rr933.1 rfl
def rr934 := List.forall_mem_cons.mp rr933.2
theorem lk934 : (Jvm.Cond.code ({ cls := "YawnRoute$Passings", name := "refresh", desc := "()V" } : Jvm.MethodName) prog_6_method_3_code (2 : Nat) (Option.none : Option Jvm.ClassFile.FieldType)) ∈ lw_gd := mem_gd rr934.1 rfl
def rr935 := List.forall_mem_cons.mp rr934.2
theorem lk935 : (Jvm.Cond.methodLink "YawnRoute$Passings" (43 : Nat) ({ cls := "YawnRoute$State", name := "dullOf", desc := "(I)I" } : Jvm.MethodName)) ∈ lw_gd := mem_gd rr935.1 rfl
def rr936 := List.forall_mem_cons.mp rr935.2
theorem lk936 : (Jvm.Cond.methodLink "YawnRoute$Passings" (49 : Nat) ({ cls := "java/util/Arrays", name := "fill", desc := "([BIIB)V" } : Jvm.MethodName)) ∈ lw_gd := mem_gd rr936.1 rfl
def rr937 := List.forall_mem_cons.mp rr936.2
theorem lk937 : (Jvm.Cond.static ({ cls := "java/util/Arrays", name := "fill", desc := "([BIIB)V" } : Jvm.MethodName)) ∈ lw_gd := mem_gd rr937.1 rfl
def rr938 := List.forall_mem_cons.mp rr937.2
theorem lk938 : (Jvm.Cond.code ({ cls := "java/util/Arrays", name := "fill", desc := "([BIIB)V" } : Jvm.MethodName) prog_22_method_110_code (5 : Nat) (Option.none : Option Jvm.ClassFile.FieldType)) ∈ lw_gd := mem_gd rr938.1 rfl
def rr939 := List.forall_mem_cons.mp rr938.2
theorem lk939 : (Jvm.Cond.methodLink "java/util/Arrays" (13 : Nat) ({ cls := "java/util/Arrays", name := "rangeCheck", desc := "(III)V" } : Jvm.MethodName)) ∈ lw_gd := mem_gd rr939.1 rfl
def rr940 := List.forall_mem_cons.mp rr939.2
theorem lk940 : (Jvm.Cond.static ({ cls := "java/util/Arrays", name := "rangeCheck", desc := "(III)V" } : Jvm.MethodName)) ∈ lw_gd := mem_gd rr940.1 rfl
def rr941 := List.forall_mem_cons.mp rr940.2
theorem lk941 : (Jvm.Cond.code ({ cls := "java/util/Arrays", name := "rangeCheck", desc := "(III)V" } : Jvm.MethodName) prog_22_method_30_code (3 : Nat) (Option.none : Option Jvm.ClassFile.FieldType)) ∈ lw_gd := mem_gd rr941.1 rfl
def rr942 := List.forall_mem_cons.mp rr941.2
theorem lk942 : (Jvm.Cond.methodLink "YawnRoute$Passings" (55 : Nat) ({ cls := "java/util/Arrays", name := "fill", desc := "([JJ)V" } : Jvm.MethodName)) ∈ lw_gd := mem_gd rr942.1 rfl
def rr943 := List.forall_mem_cons.mp rr942.2
theorem lk943 : (Jvm.Cond.static ({ cls := "java/util/Arrays", name := "fill", desc := "([JJ)V" } : Jvm.MethodName)) ∈ lw_gd := mem_gd rr943.1 rfl
def rr944 := List.forall_mem_cons.mp rr943.2
theorem lk944 : (Jvm.Cond.code ({ cls := "java/util/Arrays", name := "fill", desc := "([JJ)V" } : Jvm.MethodName) prog_22_method_101_code (5 : Nat) (Option.none : Option Jvm.ClassFile.FieldType)) ∈ lw_gd := mem_gd rr944.1 rfl
def rr945 := List.forall_mem_cons.mp rr944.2
theorem lk945 : (Jvm.Cond.methodLink "YawnRoute$Passings" (62 : Nat) ({ cls := "YawnRoute$Passings", name := "find", desc := "(I)V" } : Jvm.MethodName)) ∈ lw_gd := mem_gd rr945.1 rfl
def rr946 := List.forall_mem_cons.mp rr945.2
def rr947 := List.forall_mem_cons.mp rr946.2
theorem lk947 : (Jvm.Cond.instanceMethod ({ cls := "YawnRoute$Passings", name := "find", desc := "(I)V" } : Jvm.MethodName)) ∈ lw_gd := mem_gd rr947.1 rfl
def rr948 := List.forall_mem_cons.mp rr947.2
theorem lk948 : (Jvm.Cond.code ({ cls := "YawnRoute$Passings", name := "find", desc := "(I)V" } : Jvm.MethodName) prog_6_method_6_code (5 : Nat) (Option.none : Option Jvm.ClassFile.FieldType)) ∈ lw_gd := mem_gd rr948.1 rfl
def rr949 := List.forall_mem_cons.mp rr948.2
theorem lk949 : (Jvm.Cond.methodLinkNest "YawnRoute$Passings" (92 : Nat) ({ cls := "YawnRoute", name := "isPlace", desc := "(I)Z" } : Jvm.MethodName) "YawnRoute") ∈ lw_tbl := rr949.1
def rr950 := List.forall_mem_cons.mp rr949.2
theorem lk950 : (Jvm.Cond.static ({ cls := "YawnRoute", name := "isPlace", desc := "(I)Z" } : Jvm.MethodName)) ∈ lw_gd := mem_gd rr950.1 rfl
def rr951 := List.forall_mem_cons.mp rr950.2
theorem lk951 : (Jvm.Cond.code ({ cls := "YawnRoute", name := "isPlace", desc := "(I)Z" } : Jvm.MethodName) prog_1_method_56_code (1 : Nat) (Option.some Jvm.ClassFile.FieldType.boolean)) ∈ lw_gd := mem_gd rr951.1 rfl
def rr952 := List.forall_mem_cons.mp rr951.2
theorem lk952 : (Jvm.Cond.methodLinkNest "YawnRoute$Passings" (82 : Nat) ({ cls := "YawnRoute", name := "stationIn", desc := "(I)I" } : Jvm.MethodName) "YawnRoute") ∈ lw_tbl := rr952.1
def rr953 := List.forall_mem_cons.mp rr952.2
theorem lk953 : (Jvm.Cond.static ({ cls := "YawnRoute", name := "stationIn", desc := "(I)I" } : Jvm.MethodName)) ∈ lw_gd := mem_gd rr953.1 rfl
def rr954 := List.forall_mem_cons.mp rr953.2
theorem lk954 : (Jvm.Cond.code ({ cls := "YawnRoute", name := "stationIn", desc := "(I)I" } : Jvm.MethodName) prog_1_method_54_code (1 : Nat) (Option.some Jvm.ClassFile.FieldType.int)) ∈ lw_gd := mem_gd rr954.1 rfl
def rr955 := List.forall_mem_cons.mp rr954.2
theorem lk955 : (Jvm.Cond.methodLinkNest "YawnRoute$Passings" (85 : Nat) ({ cls := "YawnRoute", name := "sizeIn", desc := "(I)I" } : Jvm.MethodName) "YawnRoute") ∈ lw_tbl := rr955.1
def rr956 := List.forall_mem_cons.mp rr955.2
theorem lk956 : (Jvm.Cond.static ({ cls := "YawnRoute", name := "sizeIn", desc := "(I)I" } : Jvm.MethodName)) ∈ lw_gd := mem_gd rr956.1 rfl
def rr957 := List.forall_mem_cons.mp rr956.2
theorem lk957 : (Jvm.Cond.code ({ cls := "YawnRoute", name := "sizeIn", desc := "(I)I" } : Jvm.MethodName) prog_1_method_55_code (1 : Nat) (Option.some Jvm.ClassFile.FieldType.int)) ∈ lw_gd := mem_gd rr957.1 rfl
def rr958 := List.forall_mem_cons.mp rr957.2
theorem lk958 : (Jvm.Cond.methodLinkNest "YawnRoute$Passings" (71 : Nat) ({ cls := "YawnRoute", name := "has", desc := "(II)Z" } : Jvm.MethodName) "YawnRoute") ∈ lw_tbl := rr958.1
def rr959 := List.forall_mem_cons.mp rr958.2
theorem lk959 : (Jvm.Cond.methodLink "YawnRoute$Passings" (75 : Nat) ({ cls := "YawnRoute$Passings", name := "workOut", desc := "(II)I" } : Jvm.MethodName)) ∈ lw_gd := mem_gd rr959.1 rfl
theorem tq4 : ∀ w ∈ tables_1_5, w ∈ lw_tbl := fun w h => List.mem_append_right _ (List.mem_append_right _ (List.mem_append_right _ (List.mem_append_right _ (List.mem_append_right _ (List.mem_append_left _ h)))))
def rr960 := List.forall_mem_cons.mp tq4
def rr961 := List.forall_mem_cons.mp rr960.2
theorem lk961 : (Jvm.Cond.instanceMethod ({ cls := "YawnRoute$Passings", name := "workOut", desc := "(II)I" } : Jvm.MethodName)) ∈ lw_gd := mem_gd rr961.1 rfl
def rr962 := List.forall_mem_cons.mp rr961.2
theorem lk962 : (Jvm.Cond.code ({ cls := "YawnRoute$Passings", name := "workOut", desc := "(II)I" } : Jvm.MethodName) prog_6_method_5_code (4 : Nat) (Option.some Jvm.ClassFile.FieldType.int)) ∈ lw_gd := mem_gd rr962.1 rfl
def rr963 := List.forall_mem_cons.mp rr962.2
theorem lk963 : (Jvm.Cond.methodLink "YawnRoute$Passings" (88 : Nat) ({ cls := "YawnRoute$Net", name := "carried", desc := "(IIII)I" } : Jvm.MethodName)) ∈ lw_gd := mem_gd rr963.1 rfl
def rr964 := List.forall_mem_cons.mp rr963.2
theorem lk964 : (Jvm.Cond.methodLinkNest "YawnRoute$Passings" (79 : Nat) ({ cls := "YawnRoute", name := "placeOf", desc := "(II)I" } : Jvm.MethodName) "YawnRoute") ∈ lw_tbl := rr964.1
def rr965 := List.forall_mem_cons.mp rr964.2
theorem lk965 : (Jvm.Cond.methodLinkNest "YawnRoute$Routes" (47 : Nat) ({ cls := "YawnRoute", name := "stationIn", desc := "(I)I" } : Jvm.MethodName) "YawnRoute") ∈ lw_tbl := rr965.1
def rr966 := List.forall_mem_cons.mp rr965.2
theorem lk966 : (Jvm.Cond.methodLinkNest "YawnRoute$Routes" (51 : Nat) ({ cls := "YawnRoute", name := "sizeIn", desc := "(I)I" } : Jvm.MethodName) "YawnRoute") ∈ lw_tbl := rr966.1
def rr967 := List.forall_mem_cons.mp rr966.2
theorem lk967 : (Jvm.Cond.constant "YawnRoute$Routes" (54 : Nat) (1000000000 : Int32)) ∈ lw_gd := mem_gd rr967.1 rfl
def rr968 := List.forall_mem_cons.mp rr967.2
theorem lk968 : (Jvm.Cond.methodLink "YawnRoute$Routes" (55 : Nat) ({ cls := "YawnRoute$Routes", name := "improve", desc := "()Z" } : Jvm.MethodName)) ∈ lw_gd := mem_gd rr968.1 rfl
def rr969 := List.forall_mem_cons.mp rr968.2
def rr970 := List.forall_mem_cons.mp rr969.2
theorem lk970 : (Jvm.Cond.instanceMethod ({ cls := "YawnRoute$Routes", name := "improve", desc := "()Z" } : Jvm.MethodName)) ∈ lw_gd := mem_gd rr970.1 rfl
def rr971 := List.forall_mem_cons.mp rr970.2
theorem lk971 : (Jvm.Cond.code ({ cls := "YawnRoute$Routes", name := "improve", desc := "()Z" } : Jvm.MethodName) prog_7_method_6_code (6 : Nat) (Option.some Jvm.ClassFile.FieldType.boolean)) ∈ lw_gd := mem_gd rr971.1 rfl
def rr972 := List.forall_mem_cons.mp rr971.2
theorem lk972 : (Jvm.Cond.methodLink "YawnRoute$Routes" (80 : Nat) ({ cls := "YawnRoute$Routes", name := "costOver", desc := "(II)I" } : Jvm.MethodName)) ∈ lw_gd := mem_gd rr972.1 rfl
def rr973 := List.forall_mem_cons.mp rr972.2
def rr974 := List.forall_mem_cons.mp rr973.2
theorem lk974 : (Jvm.Cond.instanceMethod ({ cls := "YawnRoute$Routes", name := "costOver", desc := "(II)I" } : Jvm.MethodName)) ∈ lw_gd := mem_gd rr974.1 rfl
def rr975 := List.forall_mem_cons.mp rr974.2
theorem lk975 : (Jvm.Cond.code ({ cls := "YawnRoute$Routes", name := "costOver", desc := "(II)I" } : Jvm.MethodName) prog_7_method_8_code (5 : Nat) (Option.some Jvm.ClassFile.FieldType.int)) ∈ lw_gd := mem_gd rr975.1 rfl
def rr976 := List.forall_mem_cons.mp rr975.2
theorem lk976 : (Jvm.Cond.methodLink "YawnRoute$Routes" (65 : Nat) ({ cls := "YawnRoute$Passings", name := "next", desc := "(III)I" } : Jvm.MethodName)) ∈ lw_gd := mem_gd rr976.1 rfl
def rr977 := List.forall_mem_cons.mp rr976.2
theorem lk977 : (Jvm.Cond.instanceMethod ({ cls := "YawnRoute$Passings", name := "next", desc := "(III)I" } : Jvm.MethodName)) ∈ lw_gd := mem_gd rr977.1 rfl
def rr978 := List.forall_mem_cons.mp rr977.2
theorem lk978 : (Jvm.Cond.selects "YawnRoute$Passings" ({ cls := "YawnRoute$Passings", name := "next", desc := "(III)I" } : Jvm.MethodName) ({ cls := "YawnRoute$Passings", name := "next", desc := "(III)I" } : Jvm.MethodName)) ∈ lw_gd := mem_gd rr978.1 rfl
def rr979 := List.forall_mem_cons.mp rr978.2
theorem lk979 : (Jvm.Cond.code ({ cls := "YawnRoute$Passings", name := "next", desc := "(III)I" } : Jvm.MethodName) prog_6_method_8_code (5 : Nat) (Option.some Jvm.ClassFile.FieldType.int)) ∈ lw_gd := mem_gd rr979.1 rfl
def rr980 := List.forall_mem_cons.mp rr979.2
theorem lk980 : (Jvm.Cond.methodLink "YawnRoute$Passings" (104 : Nat) ({ cls := "YawnRoute$Passings", name := "after", desc := "(III)I" } : Jvm.MethodName)) ∈ lw_gd := mem_gd rr980.1 rfl
def rr981 := List.forall_mem_cons.mp rr980.2
theorem lk981 : (Jvm.Cond.instanceMethod ({ cls := "YawnRoute$Passings", name := "after", desc := "(III)I" } : Jvm.MethodName)) ∈ lw_gd := mem_gd rr981.1 rfl
def rr982 := List.forall_mem_cons.mp rr981.2
theorem lk982 : (Jvm.Cond.selects "YawnRoute$Passings" ({ cls := "YawnRoute$Passings", name := "after", desc := "(III)I" } : Jvm.MethodName) ({ cls := "YawnRoute$Passings", name := "after", desc := "(III)I" } : Jvm.MethodName)) ∈ lw_gd := mem_gd rr982.1 rfl
def rr983 := List.forall_mem_cons.mp rr982.2
theorem lk983 : (Jvm.Cond.code ({ cls := "YawnRoute$Passings", name := "after", desc := "(III)I" } : Jvm.MethodName) prog_6_method_7_code (4 : Nat) (Option.some Jvm.ClassFile.FieldType.int)) ∈ lw_gd := mem_gd rr983.1 rfl
def rr984 := List.forall_mem_cons.mp rr983.2
theorem lk984 : (Jvm.Cond.methodLink "YawnRoute$Passings" (96 : Nat) ({ cls := "YawnRoute$Net", name := "isStation", desc := "(I)Z" } : Jvm.MethodName)) ∈ lw_gd := mem_gd rr984.1 rfl
def rr985 := List.forall_mem_cons.mp rr984.2
theorem lk985 : (Jvm.Cond.methodLink "YawnRoute$Passings" (99 : Nat) ({ cls := "java/lang/Math", name := "max", desc := "(II)I" } : Jvm.MethodName)) ∈ lw_gd := mem_gd rr985.1 rfl
def rr986 := List.forall_mem_cons.mp rr985.2
theorem lk986 : (Jvm.Cond.methodLink "YawnRoute$Routes" (59 : Nat) ({ cls := "YawnRoute$Routes", name := "costOf", desc := "(I)I" } : Jvm.MethodName)) ∈ lw_gd := mem_gd rr986.1 rfl
def rr987 := List.forall_mem_cons.mp rr986.2
def rr988 := List.forall_mem_cons.mp rr987.2
theorem lk988 : (Jvm.Cond.instanceMethod ({ cls := "YawnRoute$Routes", name := "costOf", desc := "(I)I" } : Jvm.MethodName)) ∈ lw_gd := mem_gd rr988.1 rfl
def rr989 := List.forall_mem_cons.mp rr988.2
theorem lk989 : (Jvm.Cond.code ({ cls := "YawnRoute$Routes", name := "costOf", desc := "(I)I" } : Jvm.MethodName) prog_7_method_9_code (2 : Nat) (Option.some Jvm.ClassFile.FieldType.int)) ∈ lw_gd := mem_gd rr989.1 rfl
def rr990 := List.forall_mem_cons.mp rr989.2
theorem lk990 : (Jvm.Cond.methodLinkNest "YawnRoute$Routes" (87 : Nat) ({ cls := "YawnRoute", name := "isPlace", desc := "(I)Z" } : Jvm.MethodName) "YawnRoute") ∈ lw_tbl := rr990.1
def rr991 := List.forall_mem_cons.mp rr990.2
theorem lk991 : (Jvm.Cond.methodLink "YawnRoute$Routes" (84 : Nat) ({ cls := "YawnRoute$Net", name := "hoursOf", desc := "(II)I" } : Jvm.MethodName)) ∈ lw_gd := mem_gd rr991.1 rfl
def rr992 := List.forall_mem_cons.mp rr991.2
theorem lk992 : (Jvm.Cond.methodLink "YawnRoute" (227 : Nat) ({ cls := "YawnRoute$Routes", name := "hoursNeeded", desc := "()I" } : Jvm.MethodName)) ∈ lw_gd := mem_gd rr992.1 rfl
def rr993 := List.forall_mem_cons.mp rr992.2
theorem lk993 : (Jvm.Cond.instanceMethod ({ cls := "YawnRoute$Routes", name := "hoursNeeded", desc := "()I" } : Jvm.MethodName)) ∈ lw_gd := mem_gd rr993.1 rfl
def rr994 := List.forall_mem_cons.mp rr993.2
theorem lk994 : (Jvm.Cond.selects "YawnRoute$Routes" ({ cls := "YawnRoute$Routes", name := "hoursNeeded", desc := "()I" } : Jvm.MethodName) ({ cls := "YawnRoute$Routes", name := "hoursNeeded", desc := "()I" } : Jvm.MethodName)) ∈ lw_gd := mem_gd rr994.1 rfl
def rr995 := List.forall_mem_cons.mp rr994.2
theorem lk995 : (Jvm.Cond.code ({ cls := "YawnRoute$Routes", name := "hoursNeeded", desc := "()I" } : Jvm.MethodName) prog_7_method_3_code (1 : Nat) (Option.some Jvm.ClassFile.FieldType.int)) ∈ lw_gd := mem_gd rr995.1 rfl
def rr996 := List.forall_mem_cons.mp rr995.2
theorem lk996 : (Jvm.Cond.methodLink "YawnRouteLaw" (77 : Nat) ({ cls := "YawnRoute", name := "soonBy", desc := "(III)I" } : Jvm.MethodName)) ∈ lw_gd := mem_gd rr996.1 rfl
def rr997 := List.forall_mem_cons.mp rr996.2
theorem lk997 : (Jvm.Cond.instanceMethod ({ cls := "YawnRoute", name := "soonBy", desc := "(III)I" } : Jvm.MethodName)) ∈ lw_gd := mem_gd rr997.1 rfl
def rr998 := List.forall_mem_cons.mp rr997.2
theorem lk998 : (Jvm.Cond.selects "YawnRoute" ({ cls := "YawnRoute", name := "soonBy", desc := "(III)I" } : Jvm.MethodName) ({ cls := "YawnRoute", name := "soonBy", desc := "(III)I" } : Jvm.MethodName)) ∈ lw_gd := mem_gd rr998.1 rfl
def rr999 := List.forall_mem_cons.mp rr998.2
theorem lk999 : (Jvm.Cond.code ({ cls := "YawnRoute", name := "soonBy", desc := "(III)I" } : Jvm.MethodName) prog_1_method_17_code (4 : Nat) (Option.some Jvm.ClassFile.FieldType.int)) ∈ lw_gd := mem_gd rr999.1 rfl
def rr1000 := List.forall_mem_cons.mp rr999.2
theorem lk1000 : (Jvm.Cond.methodLink "YawnRoute" (231 : Nat) ({ cls := "YawnRoute", name := "routeBy", desc := "(IIIZ)I" } : Jvm.MethodName)) ∈ lw_gd := mem_gd rr1000.1 rfl
def rr1001 := List.forall_mem_cons.mp rr1000.2
def rr1002 := List.forall_mem_cons.mp rr1001.2
theorem lk1002 : (Jvm.Cond.instanceMethod ({ cls := "YawnRoute", name := "routeBy", desc := "(IIIZ)I" } : Jvm.MethodName)) ∈ lw_gd := mem_gd rr1002.1 rfl
def rr1003 := List.forall_mem_cons.mp rr1002.2
theorem lk1003 : (Jvm.Cond.code ({ cls := "YawnRoute", name := "routeBy", desc := "(IIIZ)I" } : Jvm.MethodName) prog_1_method_48_code (6 : Nat) (Option.some Jvm.ClassFile.FieldType.int)) ∈ lw_gd := mem_gd rr1003.1 rfl
def rr1004 := List.forall_mem_cons.mp rr1003.2
theorem lk1004 : (Jvm.Cond.methodLink "YawnRoute" (350 : Nat) ({ cls := "YawnRoute$Routes", name := "stationAt", desc := "(I)I" } : Jvm.MethodName)) ∈ lw_gd := mem_gd rr1004.1 rfl
def rr1005 := List.forall_mem_cons.mp rr1004.2
theorem lk1005 : (Jvm.Cond.instanceMethod ({ cls := "YawnRoute$Routes", name := "stationAt", desc := "(I)I" } : Jvm.MethodName)) ∈ lw_gd := mem_gd rr1005.1 rfl
def rr1006 := List.forall_mem_cons.mp rr1005.2
theorem lk1006 : (Jvm.Cond.selects "YawnRoute$Routes" ({ cls := "YawnRoute$Routes", name := "stationAt", desc := "(I)I" } : Jvm.MethodName) ({ cls := "YawnRoute$Routes", name := "stationAt", desc := "(I)I" } : Jvm.MethodName)) ∈ lw_gd := mem_gd rr1006.1 rfl
def rr1007 := List.forall_mem_cons.mp rr1006.2
theorem lk1007 : (Jvm.Cond.code ({ cls := "YawnRoute$Routes", name := "stationAt", desc := "(I)I" } : Jvm.MethodName) prog_7_method_5_code (5 : Nat) (Option.some Jvm.ClassFile.FieldType.int)) ∈ lw_gd := mem_gd rr1007.1 rfl
def rr1008 := List.forall_mem_cons.mp rr1007.2
theorem lk1008 : (Jvm.Cond.methodLink "YawnRoute$Routes" (62 : Nat) ({ cls := "YawnRoute$Routes", name := "bestFrom", desc := "(I)I" } : Jvm.MethodName)) ∈ lw_gd := mem_gd rr1008.1 rfl
def rr1009 := List.forall_mem_cons.mp rr1008.2
def rr1010 := List.forall_mem_cons.mp rr1009.2
theorem lk1010 : (Jvm.Cond.instanceMethod ({ cls := "YawnRoute$Routes", name := "bestFrom", desc := "(I)I" } : Jvm.MethodName)) ∈ lw_gd := mem_gd rr1010.1 rfl
def rr1011 := List.forall_mem_cons.mp rr1010.2
theorem lk1011 : (Jvm.Cond.code ({ cls := "YawnRoute$Routes", name := "bestFrom", desc := "(I)I" } : Jvm.MethodName) prog_7_method_7_code (4 : Nat) (Option.some Jvm.ClassFile.FieldType.int)) ∈ lw_gd := mem_gd rr1011.1 rfl
def rr1012 := List.forall_mem_cons.mp rr1011.2
theorem lk1012 : (Jvm.Cond.methodLink "YawnRouteLaw" (81 : Nat) ({ cls := "YawnRoute", name := "fewest", desc := "(II)I" } : Jvm.MethodName)) ∈ lw_gd := mem_gd rr1012.1 rfl
def rr1013 := List.forall_mem_cons.mp rr1012.2
theorem lk1013 : (Jvm.Cond.instanceMethod ({ cls := "YawnRoute", name := "fewest", desc := "(II)I" } : Jvm.MethodName)) ∈ lw_gd := mem_gd rr1013.1 rfl
def rr1014 := List.forall_mem_cons.mp rr1013.2
theorem lk1014 : (Jvm.Cond.selects "YawnRoute" ({ cls := "YawnRoute", name := "fewest", desc := "(II)I" } : Jvm.MethodName) ({ cls := "YawnRoute", name := "fewest", desc := "(II)I" } : Jvm.MethodName)) ∈ lw_gd := mem_gd rr1014.1 rfl
def rr1015 := List.forall_mem_cons.mp rr1014.2
theorem lk1015 : (Jvm.Cond.code ({ cls := "YawnRoute", name := "fewest", desc := "(II)I" } : Jvm.MethodName) prog_1_method_18_code (4 : Nat) (Option.some Jvm.ClassFile.FieldType.int)) ∈ lw_gd := mem_gd rr1015.1 rfl
def rr1016 := List.forall_mem_cons.mp rr1015.2
theorem lk1016 : (Jvm.Cond.methodLink "YawnRoute" (235 : Nat) ({ cls := "YawnRoute$Routes", name := "passingsNeeded", desc := "()I" } : Jvm.MethodName)) ∈ lw_gd := mem_gd rr1016.1 rfl
def rr1017 := List.forall_mem_cons.mp rr1016.2
theorem lk1017 : (Jvm.Cond.instanceMethod ({ cls := "YawnRoute$Routes", name := "passingsNeeded", desc := "()I" } : Jvm.MethodName)) ∈ lw_gd := mem_gd rr1017.1 rfl
def rr1018 := List.forall_mem_cons.mp rr1017.2
theorem lk1018 : (Jvm.Cond.selects "YawnRoute$Routes" ({ cls := "YawnRoute$Routes", name := "passingsNeeded", desc := "()I" } : Jvm.MethodName) ({ cls := "YawnRoute$Routes", name := "passingsNeeded", desc := "()I" } : Jvm.MethodName)) ∈ lw_gd := mem_gd rr1018.1 rfl
def rr1019 := List.forall_mem_cons.mp rr1018.2
theorem lk1019 : (Jvm.Cond.code ({ cls := "YawnRoute$Routes", name := "passingsNeeded", desc := "()I" } : Jvm.MethodName) prog_7_method_4_code (1 : Nat) (Option.some Jvm.ClassFile.FieldType.int)) ∈ lw_gd := mem_gd rr1019.1 rfl
def rr1020 := List.forall_mem_cons.mp rr1019.2
theorem lk1020 : (Jvm.Cond.methodLink "YawnRouteLaw" (85 : Nat) ({ cls := "YawnRoute", name := "fewBy", desc := "(III)I" } : Jvm.MethodName)) ∈ lw_gd := mem_gd rr1020.1 rfl
def rr1021 := List.forall_mem_cons.mp rr1020.2
theorem lk1021 : (Jvm.Cond.instanceMethod ({ cls := "YawnRoute", name := "fewBy", desc := "(III)I" } : Jvm.MethodName)) ∈ lw_gd := mem_gd rr1021.1 rfl
def rr1022 := List.forall_mem_cons.mp rr1021.2
theorem lk1022 : (Jvm.Cond.selects "YawnRoute" ({ cls := "YawnRoute", name := "fewBy", desc := "(III)I" } : Jvm.MethodName) ({ cls := "YawnRoute", name := "fewBy", desc := "(III)I" } : Jvm.MethodName)) ∈ lw_gd := mem_gd rr1022.1 rfl
def rr1023 := List.forall_mem_cons.mp rr1022.2
theorem lk1023 : (Jvm.Cond.code ({ cls := "YawnRoute", name := "fewBy", desc := "(III)I" } : Jvm.MethodName) prog_1_method_19_code (4 : Nat) (Option.some Jvm.ClassFile.FieldType.int)) ∈ lw_gd := mem_gd rr1023.1 rfl
def rr1024 := List.forall_mem_cons.mp rr1023.2
theorem lk1024 : (Jvm.Cond.methodLink "YawnRouteLaw" (89 : Nat) ({ cls := "YawnRoute", name := "biggest", desc := "(I)I" } : Jvm.MethodName)) ∈ lw_gd := mem_gd rr1024.1 rfl
def rr1025 := List.forall_mem_cons.mp rr1024.2
theorem lk1025 : (Jvm.Cond.instanceMethod ({ cls := "YawnRoute", name := "biggest", desc := "(I)I" } : Jvm.MethodName)) ∈ lw_gd := mem_gd rr1025.1 rfl
def rr1026 := List.forall_mem_cons.mp rr1025.2
theorem lk1026 : (Jvm.Cond.selects "YawnRoute" ({ cls := "YawnRoute", name := "biggest", desc := "(I)I" } : Jvm.MethodName) ({ cls := "YawnRoute", name := "biggest", desc := "(I)I" } : Jvm.MethodName)) ∈ lw_gd := mem_gd rr1026.1 rfl
def rr1027 := List.forall_mem_cons.mp rr1026.2
theorem lk1027 : (Jvm.Cond.code ({ cls := "YawnRoute", name := "biggest", desc := "(I)I" } : Jvm.MethodName) prog_1_method_20_code (3 : Nat) (Option.some Jvm.ClassFile.FieldType.int)) ∈ lw_gd := mem_gd rr1027.1 rfl
def rr1028 := List.forall_mem_cons.mp rr1027.2
theorem lk1028 : (Jvm.Cond.methodLink "YawnRoute" (238 : Nat) ({ cls := "YawnRoute$State", name := "place", desc := "()I" } : Jvm.MethodName)) ∈ lw_gd := mem_gd rr1028.1 rfl
def rr1029 := List.forall_mem_cons.mp rr1028.2
theorem lk1029 : (Jvm.Cond.methodLink "YawnRoute" (244 : Nat) ({ cls := "YawnRoute$Passings", name := "explore", desc := "(II)V" } : Jvm.MethodName)) ∈ lw_gd := mem_gd rr1029.1 rfl
def rr1030 := List.forall_mem_cons.mp rr1029.2
theorem lk1030 : (Jvm.Cond.methodLink "YawnRoute" (248 : Nat) ({ cls := "YawnRoute$Passings", name := "greatestAt", desc := "(I)I" } : Jvm.MethodName)) ∈ lw_gd := mem_gd rr1030.1 rfl
def rr1031 := List.forall_mem_cons.mp rr1030.2
theorem lk1031 : (Jvm.Cond.instanceMethod ({ cls := "YawnRoute$Passings", name := "greatestAt", desc := "(I)I" } : Jvm.MethodName)) ∈ lw_gd := mem_gd rr1031.1 rfl
def rr1032 := List.forall_mem_cons.mp rr1031.2
theorem lk1032 : (Jvm.Cond.selects "YawnRoute$Passings" ({ cls := "YawnRoute$Passings", name := "greatestAt", desc := "(I)I" } : Jvm.MethodName) ({ cls := "YawnRoute$Passings", name := "greatestAt", desc := "(I)I" } : Jvm.MethodName)) ∈ lw_gd := mem_gd rr1032.1 rfl
def rr1033 := List.forall_mem_cons.mp rr1032.2
theorem lk1033 : (Jvm.Cond.code ({ cls := "YawnRoute$Passings", name := "greatestAt", desc := "(I)I" } : Jvm.MethodName) prog_6_method_11_code (3 : Nat) (Option.some Jvm.ClassFile.FieldType.int)) ∈ lw_gd := mem_gd rr1033.1 rfl
def rr1034 := List.forall_mem_cons.mp rr1033.2
theorem lk1034 : (Jvm.Cond.methodLink "YawnRoute$Passings" (108 : Nat) ({ cls := "YawnRoute$Passings", name := "isReached", desc := "(I)Z" } : Jvm.MethodName)) ∈ lw_gd := mem_gd rr1034.1 rfl
def rr1035 := List.forall_mem_cons.mp rr1034.2
theorem lk1035 : (Jvm.Cond.instanceMethod ({ cls := "YawnRoute$Passings", name := "isReached", desc := "(I)Z" } : Jvm.MethodName)) ∈ lw_gd := mem_gd rr1035.1 rfl
def rr1036 := List.forall_mem_cons.mp rr1035.2
theorem lk1036 : (Jvm.Cond.selects "YawnRoute$Passings" ({ cls := "YawnRoute$Passings", name := "isReached", desc := "(I)Z" } : Jvm.MethodName) ({ cls := "YawnRoute$Passings", name := "isReached", desc := "(I)Z" } : Jvm.MethodName)) ∈ lw_gd := mem_gd rr1036.1 rfl
def rr1037 := List.forall_mem_cons.mp rr1036.2
theorem lk1037 : (Jvm.Cond.code ({ cls := "YawnRoute$Passings", name := "isReached", desc := "(I)Z" } : Jvm.MethodName) prog_6_method_9_code (2 : Nat) (Option.some Jvm.ClassFile.FieldType.boolean)) ∈ lw_gd := mem_gd rr1037.1 rfl
def rr1038 := List.forall_mem_cons.mp rr1037.2
theorem lk1038 : (Jvm.Cond.methodLink "YawnRouteLaw" (93 : Nat) ({ cls := "YawnRoute", name := "reach", desc := "()I" } : Jvm.MethodName)) ∈ lw_gd := mem_gd rr1038.1 rfl
def rr1039 := List.forall_mem_cons.mp rr1038.2
theorem lk1039 : (Jvm.Cond.instanceMethod ({ cls := "YawnRoute", name := "reach", desc := "()I" } : Jvm.MethodName)) ∈ lw_gd := mem_gd rr1039.1 rfl
def rr1040 := List.forall_mem_cons.mp rr1039.2
theorem lk1040 : (Jvm.Cond.selects "YawnRoute" ({ cls := "YawnRoute", name := "reach", desc := "()I" } : Jvm.MethodName) ({ cls := "YawnRoute", name := "reach", desc := "()I" } : Jvm.MethodName)) ∈ lw_gd := mem_gd rr1040.1 rfl
def rr1041 := List.forall_mem_cons.mp rr1040.2
theorem lk1041 : (Jvm.Cond.code ({ cls := "YawnRoute", name := "reach", desc := "()I" } : Jvm.MethodName) prog_1_method_21_code (2 : Nat) (Option.some Jvm.ClassFile.FieldType.int)) ∈ lw_gd := mem_gd rr1041.1 rfl
def rr1042 := List.forall_mem_cons.mp rr1041.2
theorem lk1042 : (Jvm.Cond.methodLink "YawnRoute" (251 : Nat) ({ cls := "YawnRoute$Passings", name := "stationsReached", desc := "()I" } : Jvm.MethodName)) ∈ lw_gd := mem_gd rr1042.1 rfl
def rr1043 := List.forall_mem_cons.mp rr1042.2
theorem lk1043 : (Jvm.Cond.instanceMethod ({ cls := "YawnRoute$Passings", name := "stationsReached", desc := "()I" } : Jvm.MethodName)) ∈ lw_gd := mem_gd rr1043.1 rfl
def rr1044 := List.forall_mem_cons.mp rr1043.2
theorem lk1044 : (Jvm.Cond.selects "YawnRoute$Passings" ({ cls := "YawnRoute$Passings", name := "stationsReached", desc := "()I" } : Jvm.MethodName) ({ cls := "YawnRoute$Passings", name := "stationsReached", desc := "()I" } : Jvm.MethodName)) ∈ lw_gd := mem_gd rr1044.1 rfl
def rr1045 := List.forall_mem_cons.mp rr1044.2
theorem lk1045 : (Jvm.Cond.code ({ cls := "YawnRoute$Passings", name := "stationsReached", desc := "()I" } : Jvm.MethodName) prog_6_method_10_code (3 : Nat) (Option.some Jvm.ClassFile.FieldType.int)) ∈ lw_gd := mem_gd rr1045.1 rfl
def rr1046 := List.forall_mem_cons.mp rr1045.2
theorem lk1046 : (Jvm.Cond.methodLink "YawnRouteLaw" (98 : Nat) ({ cls := "YawnRoute", name := "needed", desc := "(I)I" } : Jvm.MethodName)) ∈ lw_gd := mem_gd rr1046.1 rfl
def rr1047 := List.forall_mem_cons.mp rr1046.2
theorem lk1047 : (Jvm.Cond.instanceMethod ({ cls := "YawnRoute", name := "needed", desc := "(I)I" } : Jvm.MethodName)) ∈ lw_gd := mem_gd rr1047.1 rfl
def rr1048 := List.forall_mem_cons.mp rr1047.2
theorem lk1048 : (Jvm.Cond.selects "YawnRoute" ({ cls := "YawnRoute", name := "needed", desc := "(I)I" } : Jvm.MethodName) ({ cls := "YawnRoute", name := "needed", desc := "(I)I" } : Jvm.MethodName)) ∈ lw_gd := mem_gd rr1048.1 rfl
def rr1049 := List.forall_mem_cons.mp rr1048.2
theorem lk1049 : (Jvm.Cond.code ({ cls := "YawnRoute", name := "needed", desc := "(I)I" } : Jvm.MethodName) prog_1_method_22_code (3 : Nat) (Option.some Jvm.ClassFile.FieldType.int)) ∈ lw_gd := mem_gd rr1049.1 rfl
def rr1050 := List.forall_mem_cons.mp rr1049.2
theorem lk1050 : (Jvm.Cond.methodLink "YawnRoute" (254 : Nat) ({ cls := "YawnRoute$Routes", name := "without", desc := "(I)I" } : Jvm.MethodName)) ∈ lw_gd := mem_gd rr1050.1 rfl
def rr1051 := List.forall_mem_cons.mp rr1050.2
theorem lk1051 : (Jvm.Cond.instanceMethod ({ cls := "YawnRoute$Routes", name := "without", desc := "(I)I" } : Jvm.MethodName)) ∈ lw_gd := mem_gd rr1051.1 rfl
def rr1052 := List.forall_mem_cons.mp rr1051.2
theorem lk1052 : (Jvm.Cond.selects "YawnRoute$Routes" ({ cls := "YawnRoute$Routes", name := "without", desc := "(I)I" } : Jvm.MethodName) ({ cls := "YawnRoute$Routes", name := "without", desc := "(I)I" } : Jvm.MethodName)) ∈ lw_gd := mem_gd rr1052.1 rfl
def rr1053 := List.forall_mem_cons.mp rr1052.2
theorem lk1053 : (Jvm.Cond.code ({ cls := "YawnRoute$Routes", name := "without", desc := "(I)I" } : Jvm.MethodName) prog_7_method_10_code (5 : Nat) (Option.some Jvm.ClassFile.FieldType.int)) ∈ lw_gd := mem_gd rr1053.1 rfl
def rr1054 := List.forall_mem_cons.mp rr1053.2
theorem lk1054 : (Jvm.Cond.methodLink "YawnRoute$Routes" (91 : Nat) ({ cls := "YawnRoute$Routes", name := "comesTo", desc := "(II)Z" } : Jvm.MethodName)) ∈ lw_gd := mem_gd rr1054.1 rfl
def rr1055 := List.forall_mem_cons.mp rr1054.2
def rr1056 := List.forall_mem_cons.mp rr1055.2
theorem lk1056 : (Jvm.Cond.instanceMethod ({ cls := "YawnRoute$Routes", name := "comesTo", desc := "(II)Z" } : Jvm.MethodName)) ∈ lw_gd := mem_gd rr1056.1 rfl
def rr1057 := List.forall_mem_cons.mp rr1056.2
theorem lk1057 : (Jvm.Cond.code ({ cls := "YawnRoute$Routes", name := "comesTo", desc := "(II)Z" } : Jvm.MethodName) prog_7_method_13_code (3 : Nat) (Option.some Jvm.ClassFile.FieldType.boolean)) ∈ lw_gd := mem_gd rr1057.1 rfl
def rr1058 := List.forall_mem_cons.mp rr1057.2
theorem lk1058 : (Jvm.Cond.methodLink "YawnRoute$Routes" (109 : Nat) ({ cls := "YawnRoute$Passings", name := "isReached", desc := "(I)Z" } : Jvm.MethodName)) ∈ lw_gd := mem_gd rr1058.1 rfl
def rr1059 := List.forall_mem_cons.mp rr1058.2
theorem lk1059 : (Jvm.Cond.methodLink "YawnRouteLaw" (102 : Nat) ({ cls := "YawnRoute", name := "sleepers", desc := "(II)I" } : Jvm.MethodName)) ∈ lw_gd := mem_gd rr1059.1 rfl
def rr1060 := List.forall_mem_cons.mp rr1059.2
theorem lk1060 : (Jvm.Cond.instanceMethod ({ cls := "YawnRoute", name := "sleepers", desc := "(II)I" } : Jvm.MethodName)) ∈ lw_gd := mem_gd rr1060.1 rfl
def rr1061 := List.forall_mem_cons.mp rr1060.2
theorem lk1061 : (Jvm.Cond.selects "YawnRoute" ({ cls := "YawnRoute", name := "sleepers", desc := "(II)I" } : Jvm.MethodName) ({ cls := "YawnRoute", name := "sleepers", desc := "(II)I" } : Jvm.MethodName)) ∈ lw_gd := mem_gd rr1061.1 rfl
def rr1062 := List.forall_mem_cons.mp rr1061.2
theorem lk1062 : (Jvm.Cond.code ({ cls := "YawnRoute", name := "sleepers", desc := "(II)I" } : Jvm.MethodName) prog_1_method_23_code (5 : Nat) (Option.some Jvm.ClassFile.FieldType.int)) ∈ lw_gd := mem_gd rr1062.1 rfl
def rr1063 := List.forall_mem_cons.mp rr1062.2
theorem lk1063 : (Jvm.Cond.methodLink "YawnRoute" (257 : Nat) ({ cls := "YawnRoute$Routes", name := "leastSleepers", desc := "(I)I" } : Jvm.MethodName)) ∈ lw_gd := mem_gd rr1063.1 rfl
def rr1064 := List.forall_mem_cons.mp rr1063.2
theorem lk1064 : (Jvm.Cond.instanceMethod ({ cls := "YawnRoute$Routes", name := "leastSleepers", desc := "(I)I" } : Jvm.MethodName)) ∈ lw_gd := mem_gd rr1064.1 rfl
def rr1065 := List.forall_mem_cons.mp rr1064.2
theorem lk1065 : (Jvm.Cond.selects "YawnRoute$Routes" ({ cls := "YawnRoute$Routes", name := "leastSleepers", desc := "(I)I" } : Jvm.MethodName) ({ cls := "YawnRoute$Routes", name := "leastSleepers", desc := "(I)I" } : Jvm.MethodName)) ∈ lw_gd := mem_gd rr1065.1 rfl
def rr1066 := List.forall_mem_cons.mp rr1065.2
theorem lk1066 : (Jvm.Cond.code ({ cls := "YawnRoute$Routes", name := "leastSleepers", desc := "(I)I" } : Jvm.MethodName) prog_7_method_11_code (6 : Nat) (Option.some Jvm.ClassFile.FieldType.int)) ∈ lw_gd := mem_gd rr1066.1 rfl
def rr1067 := List.forall_mem_cons.mp rr1066.2
theorem lk1067 : (Jvm.Cond.methodLink "YawnRoute$Routes" (98 : Nat) ({ cls := "java/lang/Integer", name := "bitCount", desc := "(I)I" } : Jvm.MethodName)) ∈ lw_gd := mem_gd rr1067.1 rfl
def rr1068 := List.forall_mem_cons.mp rr1067.2
theorem lk1068 : (Jvm.Cond.static ({ cls := "java/lang/Integer", name := "bitCount", desc := "(I)I" } : Jvm.MethodName)) ∈ lw_gd := mem_gd rr1068.1 rfl
def rr1069 := List.forall_mem_cons.mp rr1068.2
theorem lk1069 : (Jvm.Cond.code ({ cls := "java/lang/Integer", name := "bitCount", desc := "(I)I" } : Jvm.MethodName) prog_16_method_49_code (1 : Nat) (Option.some Jvm.ClassFile.FieldType.int)) ∈ lw_gd := mem_gd rr1069.1 rfl
def rr1070 := List.forall_mem_cons.mp rr1069.2
theorem lk1070 : (Jvm.Cond.constant "java/lang/Integer" (265 : Nat) (1431655765 : Int32)) ∈ lw_gd := mem_gd rr1070.1 rfl
def rr1071 := List.forall_mem_cons.mp rr1070.2
theorem lk1071 : (Jvm.Cond.constant "java/lang/Integer" (266 : Nat) (858993459 : Int32)) ∈ lw_gd := mem_gd rr1071.1 rfl
def rr1072 := List.forall_mem_cons.mp rr1071.2
theorem lk1072 : (Jvm.Cond.constant "java/lang/Integer" (267 : Nat) (252645135 : Int32)) ∈ lw_gd := mem_gd rr1072.1 rfl
def rr1073 := List.forall_mem_cons.mp rr1072.2
theorem lk1073 : (Jvm.Cond.methodLink "YawnRoute$Routes" (103 : Nat) ({ cls := "YawnRoute$Routes", name := "canSleep", desc := "(II)Z" } : Jvm.MethodName)) ∈ lw_gd := mem_gd rr1073.1 rfl
def rr1074 := List.forall_mem_cons.mp rr1073.2
def rr1075 := List.forall_mem_cons.mp rr1074.2
theorem lk1075 : (Jvm.Cond.instanceMethod ({ cls := "YawnRoute$Routes", name := "canSleep", desc := "(II)Z" } : Jvm.MethodName)) ∈ lw_gd := mem_gd rr1075.1 rfl
def rr1076 := List.forall_mem_cons.mp rr1075.2
theorem lk1076 : (Jvm.Cond.code ({ cls := "YawnRoute$Routes", name := "canSleep", desc := "(II)Z" } : Jvm.MethodName) prog_7_method_12_code (3 : Nat) (Option.some Jvm.ClassFile.FieldType.boolean)) ∈ lw_gd := mem_gd rr1076.1 rfl
def rr1077 := List.forall_mem_cons.mp rr1076.2
theorem lk1077 : (Jvm.Cond.methodLinkNest "YawnRoute$Routes" (106 : Nat) ({ cls := "YawnRoute", name := "has", desc := "(II)Z" } : Jvm.MethodName) "YawnRoute") ∈ lw_tbl := rr1077.1
def rr1078 := List.forall_mem_cons.mp rr1077.2
theorem lk1078 : (Jvm.Cond.methodLink "YawnRoute" (260 : Nat) ({ cls := "java/lang/Integer", name := "bitCount", desc := "(I)I" } : Jvm.MethodName)) ∈ lw_gd := mem_gd rr1078.1 rfl
def rr1079 := List.forall_mem_cons.mp rr1078.2
theorem lk1079 : (Jvm.Cond.methodLink "YawnRouteLaw" (106 : Nat) ({ cls := "YawnRoute", name := "spread", desc := "(II)I" } : Jvm.MethodName)) ∈ lw_gd := mem_gd rr1079.1 rfl
def rr1080 := List.forall_mem_cons.mp rr1079.2
theorem lk1080 : (Jvm.Cond.instanceMethod ({ cls := "YawnRoute", name := "spread", desc := "(II)I" } : Jvm.MethodName)) ∈ lw_gd := mem_gd rr1080.1 rfl
def rr1081 := List.forall_mem_cons.mp rr1080.2
theorem lk1081 : (Jvm.Cond.selects "YawnRoute" ({ cls := "YawnRoute", name := "spread", desc := "(II)I" } : Jvm.MethodName) ({ cls := "YawnRoute", name := "spread", desc := "(II)I" } : Jvm.MethodName)) ∈ lw_gd := mem_gd rr1081.1 rfl
def rr1082 := List.forall_mem_cons.mp rr1081.2
theorem lk1082 : (Jvm.Cond.code ({ cls := "YawnRoute", name := "spread", desc := "(II)I" } : Jvm.MethodName) prog_1_method_24_code (4 : Nat) (Option.some Jvm.ClassFile.FieldType.int)) ∈ lw_gd := mem_gd rr1082.1 rfl
def rr1083 := List.forall_mem_cons.mp rr1082.2
theorem lk1083 : (Jvm.Cond.methodLink "YawnRoute" (265 : Nat) ({ cls := "YawnRoute$Spreading", name := "run", desc := "(I)I" } : Jvm.MethodName)) ∈ lw_gd := mem_gd rr1083.1 rfl
def rr1084 := List.forall_mem_cons.mp rr1083.2
theorem lk1084 : (Jvm.Cond.instanceMethod ({ cls := "YawnRoute$Spreading", name := "run", desc := "(I)I" } : Jvm.MethodName)) ∈ lw_gd := mem_gd rr1084.1 rfl
def rr1085 := List.forall_mem_cons.mp rr1084.2
theorem lk1085 : (Jvm.Cond.selects "YawnRoute$Spreading" ({ cls := "YawnRoute$Spreading", name := "run", desc := "(I)I" } : Jvm.MethodName) ({ cls := "YawnRoute$Spreading", name := "run", desc := "(I)I" } : Jvm.MethodName)) ∈ lw_gd := mem_gd rr1085.1 rfl
def rr1086 := List.forall_mem_cons.mp rr1085.2
theorem lk1086 : (Jvm.Cond.code ({ cls := "YawnRoute$Spreading", name := "run", desc := "(I)I" } : Jvm.MethodName) prog_8_method_2_code (2 : Nat) (Option.some Jvm.ClassFile.FieldType.int)) ∈ lw_gd := mem_gd rr1086.1 rfl
def rr1087 := List.forall_mem_cons.mp rr1086.2
theorem lk1087 : (Jvm.Cond.methodLink "YawnRoute$Spreading" (33 : Nat) ({ cls := "YawnRoute$State", name := "place", desc := "()I" } : Jvm.MethodName)) ∈ lw_gd := mem_gd rr1087.1 rfl
def rr1088 := List.forall_mem_cons.mp rr1087.2
theorem lk1088 : (Jvm.Cond.methodLink "YawnRoute$Spreading" (43 : Nat) ({ cls := "YawnRoute$Passings", name := "explore", desc := "(II)V" } : Jvm.MethodName)) ∈ lw_gd := mem_gd rr1088.1 rfl
def rr1089 := List.forall_mem_cons.mp rr1088.2
theorem lk1089 : (Jvm.Cond.methodLink "YawnRoute$Spreading" (49 : Nat) ({ cls := "YawnRoute$Spreading", name := "runWith", desc := "(II)I" } : Jvm.MethodName)) ∈ lw_gd := mem_gd rr1089.1 rfl
def rr1090 := List.forall_mem_cons.mp rr1089.2
def rr1091 := List.forall_mem_cons.mp rr1090.2
theorem lk1091 : (Jvm.Cond.instanceMethod ({ cls := "YawnRoute$Spreading", name := "runWith", desc := "(II)I" } : Jvm.MethodName)) ∈ lw_gd := mem_gd rr1091.1 rfl
def rr1092 := List.forall_mem_cons.mp rr1091.2
theorem lk1092 : (Jvm.Cond.code ({ cls := "YawnRoute$Spreading", name := "runWith", desc := "(II)I" } : Jvm.MethodName) prog_8_method_3_code (5 : Nat) (Option.some Jvm.ClassFile.FieldType.int)) ∈ lw_gd := mem_gd rr1092.1 rfl
def rr1093 := List.forall_mem_cons.mp rr1092.2
theorem lk1093 : (Jvm.Cond.methodLink "YawnRoute$Spreading" (59 : Nat) ({ cls := "YawnRoute$Spreading", name := "begin", desc := "([III)V" } : Jvm.MethodName)) ∈ lw_gd := mem_gd rr1093.1 rfl
def rr1094 := List.forall_mem_cons.mp rr1093.2
theorem lk1094 : (Jvm.Cond.static ({ cls := "YawnRoute$Spreading", name := "begin", desc := "([III)V" } : Jvm.MethodName)) ∈ lw_gd := mem_gd rr1094.1 rfl
def rr1095 := List.forall_mem_cons.mp rr1094.2
theorem lk1095 : (Jvm.Cond.code ({ cls := "YawnRoute$Spreading", name := "begin", desc := "([III)V" } : Jvm.MethodName) prog_8_method_9_code (3 : Nat) (Option.none : Option Jvm.ClassFile.FieldType)) ∈ lw_gd := mem_gd rr1095.1 rfl
def rr1096 := List.forall_mem_cons.mp rr1095.2
theorem lk1096 : (Jvm.Cond.methodLink "YawnRoute$Spreading" (97 : Nat) ({ cls := "java/util/Arrays", name := "fill", desc := "([II)V" } : Jvm.MethodName)) ∈ lw_gd := mem_gd rr1096.1 rfl
def rr1097 := List.forall_mem_cons.mp rr1096.2
theorem lk1097 : (Jvm.Cond.methodLink "YawnRoute$Spreading" (63 : Nat) ({ cls := "YawnRoute$Spreading", name := "goesOn", desc := "([II)Z" } : Jvm.MethodName)) ∈ lw_gd := mem_gd rr1097.1 rfl
def rr1098 := List.forall_mem_cons.mp rr1097.2
def rr1099 := List.forall_mem_cons.mp rr1098.2
theorem lk1099 : (Jvm.Cond.instanceMethod ({ cls := "YawnRoute$Spreading", name := "goesOn", desc := "([II)Z" } : Jvm.MethodName)) ∈ lw_gd := mem_gd rr1099.1 rfl
def rr1100 := List.forall_mem_cons.mp rr1099.2
theorem lk1100 : (Jvm.Cond.code ({ cls := "YawnRoute$Spreading", name := "goesOn", desc := "([II)Z" } : Jvm.MethodName) prog_8_method_10_code (7 : Nat) (Option.some Jvm.ClassFile.FieldType.boolean)) ∈ lw_gd := mem_gd rr1100.1 rfl
def rr1101 := List.forall_mem_cons.mp rr1100.2
theorem lk1101 : (Jvm.Cond.methodLink "YawnRoute$Spreading" (103 : Nat) ({ cls := "java/lang/System", name := "arraycopy", desc := "(Ljava/lang/Object;ILjava/lang/Object;II)V" } : Jvm.MethodName)) ∈ lw_gd := mem_gd rr1101.1 rfl
def rr1102 := List.forall_mem_cons.mp rr1101.2
theorem lk1102 : (Jvm.Cond.methodLinkNest "YawnRoute$Spreading" (90 : Nat) ({ cls := "YawnRoute", name := "placeOf", desc := "(II)I" } : Jvm.MethodName) "YawnRoute") ∈ lw_tbl := rr1102.1
def rr1103 := List.forall_mem_cons.mp rr1102.2
theorem lk1103 : (Jvm.Cond.methodLink "YawnRoute$Spreading" (109 : Nat) ({ cls := "YawnRoute$Passings", name := "after", desc := "(III)I" } : Jvm.MethodName)) ∈ lw_gd := mem_gd rr1103.1 rfl
def rr1104 := List.forall_mem_cons.mp rr1103.2
theorem lk1104 : (Jvm.Cond.methodLink "YawnRoute" (268 : Nat) ({ cls := "YawnRoute$Spreading", name := "sizeOf", desc := "(I)I" } : Jvm.MethodName)) ∈ lw_gd := mem_gd rr1104.1 rfl
def rr1105 := List.forall_mem_cons.mp rr1104.2
theorem lk1105 : (Jvm.Cond.instanceMethod ({ cls := "YawnRoute$Spreading", name := "sizeOf", desc := "(I)I" } : Jvm.MethodName)) ∈ lw_gd := mem_gd rr1105.1 rfl
def rr1106 := List.forall_mem_cons.mp rr1105.2
theorem lk1106 : (Jvm.Cond.selects "YawnRoute$Spreading" ({ cls := "YawnRoute$Spreading", name := "sizeOf", desc := "(I)I" } : Jvm.MethodName) ({ cls := "YawnRoute$Spreading", name := "sizeOf", desc := "(I)I" } : Jvm.MethodName)) ∈ lw_gd := mem_gd rr1106.1 rfl
def rr1107 := List.forall_mem_cons.mp rr1106.2
theorem lk1107 : (Jvm.Cond.code ({ cls := "YawnRoute$Spreading", name := "sizeOf", desc := "(I)I" } : Jvm.MethodName) prog_8_method_4_code (2 : Nat) (Option.some Jvm.ClassFile.FieldType.int)) ∈ lw_gd := mem_gd rr1107.1 rfl
def rr1108 := List.forall_mem_cons.mp rr1107.2
theorem lk1108 : (Jvm.Cond.methodLink "YawnRouteLaw" (110 : Nat) ({ cls := "YawnRoute", name := "rounds", desc := "()I" } : Jvm.MethodName)) ∈ lw_gd := mem_gd rr1108.1 rfl
def rr1109 := List.forall_mem_cons.mp rr1108.2
theorem lk1109 : (Jvm.Cond.instanceMethod ({ cls := "YawnRoute", name := "rounds", desc := "()I" } : Jvm.MethodName)) ∈ lw_gd := mem_gd rr1109.1 rfl
def rr1110 := List.forall_mem_cons.mp rr1109.2
theorem lk1110 : (Jvm.Cond.selects "YawnRoute" ({ cls := "YawnRoute", name := "rounds", desc := "()I" } : Jvm.MethodName) ({ cls := "YawnRoute", name := "rounds", desc := "()I" } : Jvm.MethodName)) ∈ lw_gd := mem_gd rr1110.1 rfl
def rr1111 := List.forall_mem_cons.mp rr1110.2
theorem lk1111 : (Jvm.Cond.code ({ cls := "YawnRoute", name := "rounds", desc := "()I" } : Jvm.MethodName) prog_1_method_25_code (2 : Nat) (Option.some Jvm.ClassFile.FieldType.int)) ∈ lw_gd := mem_gd rr1111.1 rfl
def rr1112 := List.forall_mem_cons.mp rr1111.2
theorem lk1112 : (Jvm.Cond.methodLink "YawnRouteLaw" (114 : Nat) ({ cls := "YawnRoute", name := "crowd", desc := "()I" } : Jvm.MethodName)) ∈ lw_gd := mem_gd rr1112.1 rfl
def rr1113 := List.forall_mem_cons.mp rr1112.2
theorem lk1113 : (Jvm.Cond.instanceMethod ({ cls := "YawnRoute", name := "crowd", desc := "()I" } : Jvm.MethodName)) ∈ lw_gd := mem_gd rr1113.1 rfl
def rr1114 := List.forall_mem_cons.mp rr1113.2
theorem lk1114 : (Jvm.Cond.selects "YawnRoute" ({ cls := "YawnRoute", name := "crowd", desc := "()I" } : Jvm.MethodName) ({ cls := "YawnRoute", name := "crowd", desc := "()I" } : Jvm.MethodName)) ∈ lw_gd := mem_gd rr1114.1 rfl
def rr1115 := List.forall_mem_cons.mp rr1114.2
theorem lk1115 : (Jvm.Cond.code ({ cls := "YawnRoute", name := "crowd", desc := "()I" } : Jvm.MethodName) prog_1_method_26_code (2 : Nat) (Option.some Jvm.ClassFile.FieldType.int)) ∈ lw_gd := mem_gd rr1115.1 rfl
def rr1116 := List.forall_mem_cons.mp rr1115.2
theorem lk1116 : (Jvm.Cond.methodLink "YawnRoute" (271 : Nat) ({ cls := "YawnRoute$Spreading", name := "holders", desc := "()I" } : Jvm.MethodName)) ∈ lw_gd := mem_gd rr1116.1 rfl
def rr1117 := List.forall_mem_cons.mp rr1116.2
theorem lk1117 : (Jvm.Cond.instanceMethod ({ cls := "YawnRoute$Spreading", name := "holders", desc := "()I" } : Jvm.MethodName)) ∈ lw_gd := mem_gd rr1117.1 rfl
def rr1118 := List.forall_mem_cons.mp rr1117.2
theorem lk1118 : (Jvm.Cond.selects "YawnRoute$Spreading" ({ cls := "YawnRoute$Spreading", name := "holders", desc := "()I" } : Jvm.MethodName) ({ cls := "YawnRoute$Spreading", name := "holders", desc := "()I" } : Jvm.MethodName)) ∈ lw_gd := mem_gd rr1118.1 rfl
def rr1119 := List.forall_mem_cons.mp rr1118.2
theorem lk1119 : (Jvm.Cond.code ({ cls := "YawnRoute$Spreading", name := "holders", desc := "()I" } : Jvm.MethodName) prog_8_method_5_code (3 : Nat) (Option.some Jvm.ClassFile.FieldType.int)) ∈ lw_gd := mem_gd rr1119.1 rfl
def rr1120 := List.forall_mem_cons.mp rr1119.2
theorem lk1120 : (Jvm.Cond.methodLink "YawnRouteLaw" (118 : Nat) ({ cls := "YawnRoute", name := "stopper", desc := "()I" } : Jvm.MethodName)) ∈ lw_gd := mem_gd rr1120.1 rfl
def rr1121 := List.forall_mem_cons.mp rr1120.2
theorem lk1121 : (Jvm.Cond.instanceMethod ({ cls := "YawnRoute", name := "stopper", desc := "()I" } : Jvm.MethodName)) ∈ lw_gd := mem_gd rr1121.1 rfl
def rr1122 := List.forall_mem_cons.mp rr1121.2
theorem lk1122 : (Jvm.Cond.selects "YawnRoute" ({ cls := "YawnRoute", name := "stopper", desc := "()I" } : Jvm.MethodName) ({ cls := "YawnRoute", name := "stopper", desc := "()I" } : Jvm.MethodName)) ∈ lw_gd := mem_gd rr1122.1 rfl
def rr1123 := List.forall_mem_cons.mp rr1122.2
theorem lk1123 : (Jvm.Cond.code ({ cls := "YawnRoute", name := "stopper", desc := "()I" } : Jvm.MethodName) prog_1_method_27_code (2 : Nat) (Option.some Jvm.ClassFile.FieldType.int)) ∈ lw_gd := mem_gd rr1123.1 rfl
def rr1124 := List.forall_mem_cons.mp rr1123.2
theorem lk1124 : (Jvm.Cond.methodLink "YawnRoute" (274 : Nat) ({ cls := "YawnRoute$Spreading", name := "bestStopper", desc := "()I" } : Jvm.MethodName)) ∈ lw_gd := mem_gd rr1124.1 rfl
def rr1125 := List.forall_mem_cons.mp rr1124.2
theorem lk1125 : (Jvm.Cond.instanceMethod ({ cls := "YawnRoute$Spreading", name := "bestStopper", desc := "()I" } : Jvm.MethodName)) ∈ lw_gd := mem_gd rr1125.1 rfl
def rr1126 := List.forall_mem_cons.mp rr1125.2
theorem lk1126 : (Jvm.Cond.selects "YawnRoute$Spreading" ({ cls := "YawnRoute$Spreading", name := "bestStopper", desc := "()I" } : Jvm.MethodName) ({ cls := "YawnRoute$Spreading", name := "bestStopper", desc := "()I" } : Jvm.MethodName)) ∈ lw_gd := mem_gd rr1126.1 rfl
def rr1127 := List.forall_mem_cons.mp rr1126.2
theorem lk1127 : (Jvm.Cond.code ({ cls := "YawnRoute$Spreading", name := "bestStopper", desc := "()I" } : Jvm.MethodName) prog_8_method_6_code (5 : Nat) (Option.some Jvm.ClassFile.FieldType.int)) ∈ lw_gd := mem_gd rr1127.1 rfl
def rr1128 := List.forall_mem_cons.mp rr1127.2
theorem lk1128 : (Jvm.Cond.methodLink "YawnRoute$Spreading" (72 : Nat) ({ cls := "YawnRoute$State", name := "isAsleep", desc := "(I)Z" } : Jvm.MethodName)) ∈ lw_gd := mem_gd rr1128.1 rfl
def rr1129 := List.forall_mem_cons.mp rr1128.2
theorem lk1129 : (Jvm.Cond.methodLink "YawnRoute$Spreading" (76 : Nat) ({ cls := "YawnRoute$Spreading", name := "holders", desc := "()I" } : Jvm.MethodName)) ∈ lw_gd := mem_gd rr1129.1 rfl
def rr1130 := List.forall_mem_cons.mp rr1129.2
theorem lk1130 : (Jvm.Cond.methodLink "YawnRoute$Spreading" (79 : Nat) ({ cls := "java/lang/Integer", name := "bitCount", desc := "(I)I" } : Jvm.MethodName)) ∈ lw_gd := mem_gd rr1130.1 rfl
def rr1131 := List.forall_mem_cons.mp rr1130.2
theorem lk1131 : (Jvm.Cond.methodLink "YawnRoute$Spreading" (85 : Nat) ({ cls := "java/lang/Math", name := "min", desc := "(II)I" } : Jvm.MethodName)) ∈ lw_gd := mem_gd rr1131.1 rfl
def rr1132 := List.forall_mem_cons.mp rr1131.2
theorem lk1132 : (Jvm.Cond.methodLink "YawnRouteLaw" (122 : Nat) ({ cls := "YawnRoute", name := "meets", desc := "(III)I" } : Jvm.MethodName)) ∈ lw_gd := mem_gd rr1132.1 rfl
def rr1133 := List.forall_mem_cons.mp rr1132.2
theorem lk1133 : (Jvm.Cond.instanceMethod ({ cls := "YawnRoute", name := "meets", desc := "(III)I" } : Jvm.MethodName)) ∈ lw_gd := mem_gd rr1133.1 rfl
def rr1134 := List.forall_mem_cons.mp rr1133.2
theorem lk1134 : (Jvm.Cond.selects "YawnRoute" ({ cls := "YawnRoute", name := "meets", desc := "(III)I" } : Jvm.MethodName) ({ cls := "YawnRoute", name := "meets", desc := "(III)I" } : Jvm.MethodName)) ∈ lw_gd := mem_gd rr1134.1 rfl
def rr1135 := List.forall_mem_cons.mp rr1134.2
theorem lk1135 : (Jvm.Cond.code ({ cls := "YawnRoute", name := "meets", desc := "(III)I" } : Jvm.MethodName) prog_1_method_28_code (4 : Nat) (Option.some Jvm.ClassFile.FieldType.int)) ∈ lw_gd := mem_gd rr1135.1 rfl
def rr1136 := List.forall_mem_cons.mp rr1135.2
theorem lk1136 : (Jvm.Cond.methodLink "YawnRoute" (277 : Nat) ({ cls := "YawnRoute$Spreading", name := "meeting", desc := "(III)I" } : Jvm.MethodName)) ∈ lw_gd := mem_gd rr1136.1 rfl
def rr1137 := List.forall_mem_cons.mp rr1136.2
theorem lk1137 : (Jvm.Cond.instanceMethod ({ cls := "YawnRoute$Spreading", name := "meeting", desc := "(III)I" } : Jvm.MethodName)) ∈ lw_gd := mem_gd rr1137.1 rfl
def rr1138 := List.forall_mem_cons.mp rr1137.2
theorem lk1138 : (Jvm.Cond.selects "YawnRoute$Spreading" ({ cls := "YawnRoute$Spreading", name := "meeting", desc := "(III)I" } : Jvm.MethodName) ({ cls := "YawnRoute$Spreading", name := "meeting", desc := "(III)I" } : Jvm.MethodName)) ∈ lw_gd := mem_gd rr1138.1 rfl
def rr1139 := List.forall_mem_cons.mp rr1138.2
theorem lk1139 : (Jvm.Cond.code ({ cls := "YawnRoute$Spreading", name := "meeting", desc := "(III)I" } : Jvm.MethodName) prog_8_method_7_code (8 : Nat) (Option.some Jvm.ClassFile.FieldType.int)) ∈ lw_gd := mem_gd rr1139.1 rfl
def rr1140 := List.forall_mem_cons.mp rr1139.2
theorem lk1140 : (Jvm.Cond.methodLink "YawnRoute$Spreading" (93 : Nat) ({ cls := "YawnRoute$Spreading", name := "isMet", desc := "()Z" } : Jvm.MethodName)) ∈ lw_gd := mem_gd rr1140.1 rfl
def rr1141 := List.forall_mem_cons.mp rr1140.2
def rr1142 := List.forall_mem_cons.mp rr1141.2
theorem lk1142 : (Jvm.Cond.instanceMethod ({ cls := "YawnRoute$Spreading", name := "isMet", desc := "()Z" } : Jvm.MethodName)) ∈ lw_gd := mem_gd rr1142.1 rfl
def rr1143 := List.forall_mem_cons.mp rr1142.2
theorem lk1143 : (Jvm.Cond.code ({ cls := "YawnRoute$Spreading", name := "isMet", desc := "()Z" } : Jvm.MethodName) prog_8_method_8_code (2 : Nat) (Option.some Jvm.ClassFile.FieldType.boolean)) ∈ lw_gd := mem_gd rr1143.1 rfl
def rr1144 := List.forall_mem_cons.mp rr1143.2
theorem lk1144 : (Jvm.Cond.methodLink "YawnRouteLaw" (126 : Nat) ({ cls := "YawnRoute", name := "back", desc := "(III)J" } : Jvm.MethodName)) ∈ lw_gd := mem_gd rr1144.1 rfl
def rr1145 := List.forall_mem_cons.mp rr1144.2
theorem lk1145 : (Jvm.Cond.instanceMethod ({ cls := "YawnRoute", name := "back", desc := "(III)J" } : Jvm.MethodName)) ∈ lw_gd := mem_gd rr1145.1 rfl
def rr1146 := List.forall_mem_cons.mp rr1145.2
theorem lk1146 : (Jvm.Cond.selects "YawnRoute" ({ cls := "YawnRoute", name := "back", desc := "(III)J" } : Jvm.MethodName) ({ cls := "YawnRoute", name := "back", desc := "(III)J" } : Jvm.MethodName)) ∈ lw_gd := mem_gd rr1146.1 rfl
def rr1147 := List.forall_mem_cons.mp rr1146.2
theorem lk1147 : (Jvm.Cond.code ({ cls := "YawnRoute", name := "back", desc := "(III)J" } : Jvm.MethodName) prog_1_method_29_code (5 : Nat) (Option.some Jvm.ClassFile.FieldType.long)) ∈ lw_gd := mem_gd rr1147.1 rfl
def rr1148 := List.forall_mem_cons.mp rr1147.2
theorem lk1148 : (Jvm.Cond.methodLink "YawnRoute" (281 : Nat) ({ cls := "YawnRoute", name := "isBack", desc := "(II)Z" } : Jvm.MethodName)) ∈ lw_gd := mem_gd rr1148.1 rfl
def rr1149 := List.forall_mem_cons.mp rr1148.2
theorem lk1149 : (Jvm.Cond.static ({ cls := "YawnRoute", name := "isBack", desc := "(II)Z" } : Jvm.MethodName)) ∈ lw_gd := mem_gd rr1149.1 rfl
def rr1150 := List.forall_mem_cons.mp rr1149.2
theorem lk1150 : (Jvm.Cond.code ({ cls := "YawnRoute", name := "isBack", desc := "(II)Z" } : Jvm.MethodName) prog_1_method_50_code (2 : Nat) (Option.some Jvm.ClassFile.FieldType.boolean)) ∈ lw_gd := mem_gd rr1150.1 rfl
def rr1151 := List.forall_mem_cons.mp rr1150.2
theorem lk1151 : (Jvm.Cond.methodLink "YawnRoute" (285 : Nat) ({ cls := "YawnRoute", name := "placeOf", desc := "(II)I" } : Jvm.MethodName)) ∈ lw_gd := mem_gd rr1151.1 rfl
def rr1152 := List.forall_mem_cons.mp rr1151.2
theorem lk1152 : (Jvm.Cond.methodLink "YawnRoute" (288 : Nat) ({ cls := "YawnRoute$Steps", name := "countBack", desc := "(II)I" } : Jvm.MethodName)) ∈ lw_gd := mem_gd rr1152.1 rfl
def rr1153 := List.forall_mem_cons.mp rr1152.2
theorem lk1153 : (Jvm.Cond.instanceMethod ({ cls := "YawnRoute$Steps", name := "countBack", desc := "(II)I" } : Jvm.MethodName)) ∈ lw_gd := mem_gd rr1153.1 rfl
def rr1154 := List.forall_mem_cons.mp rr1153.2
theorem lk1154 : (Jvm.Cond.selects "YawnRoute$Steps" ({ cls := "YawnRoute$Steps", name := "countBack", desc := "(II)I" } : Jvm.MethodName) ({ cls := "YawnRoute$Steps", name := "countBack", desc := "(II)I" } : Jvm.MethodName)) ∈ lw_gd := mem_gd rr1154.1 rfl
def rr1155 := List.forall_mem_cons.mp rr1154.2
theorem lk1155 : (Jvm.Cond.code ({ cls := "YawnRoute$Steps", name := "countBack", desc := "(II)I" } : Jvm.MethodName) prog_10_method_2_code (5 : Nat) (Option.some Jvm.ClassFile.FieldType.int)) ∈ lw_gd := mem_gd rr1155.1 rfl
def rr1156 := List.forall_mem_cons.mp rr1155.2
theorem lk1156 : (Jvm.Cond.methodLink "YawnRoute$Steps" (34 : Nat) ({ cls := "YawnRoute$State", name := "place", desc := "()I" } : Jvm.MethodName)) ∈ lw_gd := mem_gd rr1156.1 rfl
def rr1157 := List.forall_mem_cons.mp rr1156.2
theorem lk1157 : (Jvm.Cond.methodLink "YawnRoute$Steps" (44 : Nat) ({ cls := "YawnRoute$Passings", name := "explore", desc := "(II)V" } : Jvm.MethodName)) ∈ lw_gd := mem_gd rr1157.1 rfl
def rr1158 := List.forall_mem_cons.mp rr1157.2
theorem lk1158 : (Jvm.Cond.methodLink "YawnRoute$Steps" (50 : Nat) ({ cls := "java/util/Arrays", name := "fill", desc := "([II)V" } : Jvm.MethodName)) ∈ lw_gd := mem_gd rr1158.1 rfl
def rr1159 := List.forall_mem_cons.mp rr1158.2
theorem lk1159 : (Jvm.Cond.methodLinkNest "YawnRoute$Steps" (56 : Nat) ({ cls := "YawnRoute", name := "isPlace", desc := "(I)Z" } : Jvm.MethodName) "YawnRoute") ∈ lw_tbl := rr1159.1
def rr1160 := List.forall_mem_cons.mp rr1159.2
theorem lk1160 : (Jvm.Cond.methodLink "YawnRoute$Steps" (67 : Nat) ({ cls := "YawnRoute$Steps", name := "countFrom", desc := "(II)V" } : Jvm.MethodName)) ∈ lw_gd := mem_gd rr1160.1 rfl
def rr1161 := List.forall_mem_cons.mp rr1160.2
def rr1162 := List.forall_mem_cons.mp rr1161.2
theorem lk1162 : (Jvm.Cond.instanceMethod ({ cls := "YawnRoute$Steps", name := "countFrom", desc := "(II)V" } : Jvm.MethodName)) ∈ lw_gd := mem_gd rr1162.1 rfl
def rr1163 := List.forall_mem_cons.mp rr1162.2
theorem lk1163 : (Jvm.Cond.code ({ cls := "YawnRoute$Steps", name := "countFrom", desc := "(II)V" } : Jvm.MethodName) prog_10_method_3_code (8 : Nat) (Option.none : Option Jvm.ClassFile.FieldType)) ∈ lw_gd := mem_gd rr1163.1 rfl
def rr1164 := List.forall_mem_cons.mp rr1163.2
theorem lk1164 : (Jvm.Cond.methodLink "YawnRoute$Steps" (79 : Nat) ({ cls := "YawnRoute$Passings", name := "next", desc := "(III)I" } : Jvm.MethodName)) ∈ lw_gd := mem_gd rr1164.1 rfl
def rr1165 := List.forall_mem_cons.mp rr1164.2
theorem lk1165 : (Jvm.Cond.methodLink "YawnRoute$Steps" (70 : Nat) ({ cls := "YawnRoute$Steps", name := "routesFrom", desc := "(II)I" } : Jvm.MethodName)) ∈ lw_gd := mem_gd rr1165.1 rfl
def rr1166 := List.forall_mem_cons.mp rr1165.2
def rr1167 := List.forall_mem_cons.mp rr1166.2
theorem lk1167 : (Jvm.Cond.instanceMethod ({ cls := "YawnRoute$Steps", name := "routesFrom", desc := "(II)I" } : Jvm.MethodName)) ∈ lw_gd := mem_gd rr1167.1 rfl
def rr1168 := List.forall_mem_cons.mp rr1167.2
theorem lk1168 : (Jvm.Cond.code ({ cls := "YawnRoute$Steps", name := "routesFrom", desc := "(II)I" } : Jvm.MethodName) prog_10_method_4_code (3 : Nat) (Option.some Jvm.ClassFile.FieldType.int)) ∈ lw_gd := mem_gd rr1168.1 rfl
def rr1169 := List.forall_mem_cons.mp rr1168.2
theorem lk1169 : (Jvm.Cond.methodLink "YawnRouteLaw" (131 : Nat) ({ cls := "YawnRoute", name := "backBy", desc := "(IIII)I" } : Jvm.MethodName)) ∈ lw_gd := mem_gd rr1169.1 rfl
def rr1170 := List.forall_mem_cons.mp rr1169.2
theorem lk1170 : (Jvm.Cond.instanceMethod ({ cls := "YawnRoute", name := "backBy", desc := "(IIII)I" } : Jvm.MethodName)) ∈ lw_gd := mem_gd rr1170.1 rfl
def rr1171 := List.forall_mem_cons.mp rr1170.2
theorem lk1171 : (Jvm.Cond.selects "YawnRoute" ({ cls := "YawnRoute", name := "backBy", desc := "(IIII)I" } : Jvm.MethodName) ({ cls := "YawnRoute", name := "backBy", desc := "(IIII)I" } : Jvm.MethodName)) ∈ lw_gd := mem_gd rr1171.1 rfl
def rr1172 := List.forall_mem_cons.mp rr1171.2
theorem lk1172 : (Jvm.Cond.code ({ cls := "YawnRoute", name := "backBy", desc := "(IIII)I" } : Jvm.MethodName) prog_1_method_30_code (6 : Nat) (Option.some Jvm.ClassFile.FieldType.int)) ∈ lw_gd := mem_gd rr1172.1 rfl
def rr1173 := List.forall_mem_cons.mp rr1172.2
theorem lk1173 : (Jvm.Cond.methodLink "YawnRoute" (291 : Nat) ({ cls := "YawnRoute$Steps", name := "stationBack", desc := "(II)I" } : Jvm.MethodName)) ∈ lw_gd := mem_gd rr1173.1 rfl
def rr1174 := List.forall_mem_cons.mp rr1173.2
theorem lk1174 : (Jvm.Cond.instanceMethod ({ cls := "YawnRoute$Steps", name := "stationBack", desc := "(II)I" } : Jvm.MethodName)) ∈ lw_gd := mem_gd rr1174.1 rfl
def rr1175 := List.forall_mem_cons.mp rr1174.2
theorem lk1175 : (Jvm.Cond.selects "YawnRoute$Steps" ({ cls := "YawnRoute$Steps", name := "stationBack", desc := "(II)I" } : Jvm.MethodName) ({ cls := "YawnRoute$Steps", name := "stationBack", desc := "(II)I" } : Jvm.MethodName)) ∈ lw_gd := mem_gd rr1175.1 rfl
def rr1176 := List.forall_mem_cons.mp rr1175.2
theorem lk1176 : (Jvm.Cond.code ({ cls := "YawnRoute$Steps", name := "stationBack", desc := "(II)I" } : Jvm.MethodName) prog_10_method_6_code (6 : Nat) (Option.some Jvm.ClassFile.FieldType.int)) ∈ lw_gd := mem_gd rr1176.1 rfl
def rr1177 := List.forall_mem_cons.mp rr1176.2
theorem lk1177 : (Jvm.Cond.methodLink "YawnRoute$Steps" (83 : Nat) ({ cls := "YawnRoute$Steps", name := "firstBack", desc := "(II)I" } : Jvm.MethodName)) ∈ lw_gd := mem_gd rr1177.1 rfl
def rr1178 := List.forall_mem_cons.mp rr1177.2
def rr1179 := List.forall_mem_cons.mp rr1178.2
theorem lk1179 : (Jvm.Cond.instanceMethod ({ cls := "YawnRoute$Steps", name := "firstBack", desc := "(II)I" } : Jvm.MethodName)) ∈ lw_gd := mem_gd rr1179.1 rfl
def rr1180 := List.forall_mem_cons.mp rr1179.2
theorem lk1180 : (Jvm.Cond.code ({ cls := "YawnRoute$Steps", name := "firstBack", desc := "(II)I" } : Jvm.MethodName) prog_10_method_7_code (4 : Nat) (Option.some Jvm.ClassFile.FieldType.int)) ∈ lw_gd := mem_gd rr1180.1 rfl
def rr1181 := List.forall_mem_cons.mp rr1180.2
theorem lk1181 : (Jvm.Cond.methodLink "YawnRouteLaw" (136 : Nat) ({ cls := "YawnRoute", name := "surely", desc := "(III)I" } : Jvm.MethodName)) ∈ lw_gd := mem_gd rr1181.1 rfl
def rr1182 := List.forall_mem_cons.mp rr1181.2
theorem lk1182 : (Jvm.Cond.instanceMethod ({ cls := "YawnRoute", name := "surely", desc := "(III)I" } : Jvm.MethodName)) ∈ lw_gd := mem_gd rr1182.1 rfl
def rr1183 := List.forall_mem_cons.mp rr1182.2
theorem lk1183 : (Jvm.Cond.selects "YawnRoute" ({ cls := "YawnRoute", name := "surely", desc := "(III)I" } : Jvm.MethodName) ({ cls := "YawnRoute", name := "surely", desc := "(III)I" } : Jvm.MethodName)) ∈ lw_gd := mem_gd rr1183.1 rfl
def rr1184 := List.forall_mem_cons.mp rr1183.2
theorem lk1184 : (Jvm.Cond.code ({ cls := "YawnRoute", name := "surely", desc := "(III)I" } : Jvm.MethodName) prog_1_method_31_code (5 : Nat) (Option.some Jvm.ClassFile.FieldType.int)) ∈ lw_gd := mem_gd rr1184.1 rfl
def rr1185 := List.forall_mem_cons.mp rr1184.2
theorem lk1185 : (Jvm.Cond.methodLink "YawnRoute" (294 : Nat) ({ cls := "YawnRoute$Steps", name := "sureBack", desc := "(I)I" } : Jvm.MethodName)) ∈ lw_gd := mem_gd rr1185.1 rfl
def rr1186 := List.forall_mem_cons.mp rr1185.2
theorem lk1186 : (Jvm.Cond.instanceMethod ({ cls := "YawnRoute$Steps", name := "sureBack", desc := "(I)I" } : Jvm.MethodName)) ∈ lw_gd := mem_gd rr1186.1 rfl
def rr1187 := List.forall_mem_cons.mp rr1186.2
theorem lk1187 : (Jvm.Cond.selects "YawnRoute$Steps" ({ cls := "YawnRoute$Steps", name := "sureBack", desc := "(I)I" } : Jvm.MethodName) ({ cls := "YawnRoute$Steps", name := "sureBack", desc := "(I)I" } : Jvm.MethodName)) ∈ lw_gd := mem_gd rr1187.1 rfl
def rr1188 := List.forall_mem_cons.mp rr1187.2
theorem lk1188 : (Jvm.Cond.code ({ cls := "YawnRoute$Steps", name := "sureBack", desc := "(I)I" } : Jvm.MethodName) prog_10_method_5_code (3 : Nat) (Option.some Jvm.ClassFile.FieldType.int)) ∈ lw_gd := mem_gd rr1188.1 rfl
def rr1189 := List.forall_mem_cons.mp rr1188.2
theorem lk1189 : (Jvm.Cond.methodLink "YawnRouteLaw" (140 : Nat) ({ cls := "YawnRoute", name := "dulls", desc := "(III)I" } : Jvm.MethodName)) ∈ lw_gd := mem_gd rr1189.1 rfl
def rr1190 := List.forall_mem_cons.mp rr1189.2
theorem lk1190 : (Jvm.Cond.instanceMethod ({ cls := "YawnRoute", name := "dulls", desc := "(III)I" } : Jvm.MethodName)) ∈ lw_gd := mem_gd rr1190.1 rfl
def rr1191 := List.forall_mem_cons.mp rr1190.2
theorem lk1191 : (Jvm.Cond.selects "YawnRoute" ({ cls := "YawnRoute", name := "dulls", desc := "(III)I" } : Jvm.MethodName) ({ cls := "YawnRoute", name := "dulls", desc := "(III)I" } : Jvm.MethodName)) ∈ lw_gd := mem_gd rr1191.1 rfl
def rr1192 := List.forall_mem_cons.mp rr1191.2
theorem lk1192 : (Jvm.Cond.code ({ cls := "YawnRoute", name := "dulls", desc := "(III)I" } : Jvm.MethodName) prog_1_method_32_code (5 : Nat) (Option.some Jvm.ClassFile.FieldType.int)) ∈ lw_gd := mem_gd rr1192.1 rfl
def rr1193 := List.forall_mem_cons.mp rr1192.2
theorem lk1193 : (Jvm.Cond.methodLink "YawnRoute" (297 : Nat) ({ cls := "YawnRoute", name := "refusalTold", desc := "(III)I" } : Jvm.MethodName)) ∈ lw_gd := mem_gd rr1193.1 rfl
def rr1194 := List.forall_mem_cons.mp rr1193.2
def rr1195 := List.forall_mem_cons.mp rr1194.2
theorem lk1195 : (Jvm.Cond.instanceMethod ({ cls := "YawnRoute", name := "refusalTold", desc := "(III)I" } : Jvm.MethodName)) ∈ lw_gd := mem_gd rr1195.1 rfl
def rr1196 := List.forall_mem_cons.mp rr1195.2
theorem lk1196 : (Jvm.Cond.code ({ cls := "YawnRoute", name := "refusalTold", desc := "(III)I" } : Jvm.MethodName) prog_1_method_47_code (4 : Nat) (Option.some Jvm.ClassFile.FieldType.int)) ∈ lw_gd := mem_gd rr1196.1 rfl
def rr1197 := List.forall_mem_cons.mp rr1196.2
theorem lk1197 : (Jvm.Cond.methodLink "YawnRoute" (372 : Nat) ({ cls := "YawnRoute$Deeds", name := "tellsStations", desc := "(I)Z" } : Jvm.MethodName)) ∈ lw_gd := mem_gd rr1197.1 rfl
def rr1198 := List.forall_mem_cons.mp rr1197.2
theorem lk1198 : (Jvm.Cond.instanceMethod ({ cls := "YawnRoute$Deeds", name := "tellsStations", desc := "(I)Z" } : Jvm.MethodName)) ∈ lw_gd := mem_gd rr1198.1 rfl
def rr1199 := List.forall_mem_cons.mp rr1198.2
theorem lk1199 : (Jvm.Cond.selects "YawnRoute$Deeds" ({ cls := "YawnRoute$Deeds", name := "tellsStations", desc := "(I)Z" } : Jvm.MethodName) ({ cls := "YawnRoute$Deeds", name := "tellsStations", desc := "(I)Z" } : Jvm.MethodName)) ∈ lw_gd := mem_gd rr1199.1 rfl
theorem tq5 : ∀ w ∈ tables_1_6, w ∈ lw_tbl := fun w h => List.mem_append_right _ (List.mem_append_right _ (List.mem_append_right _ (List.mem_append_right _ (List.mem_append_right _ (List.mem_append_right _ (List.mem_append_left _ h))))))
def rr1200 := List.forall_mem_cons.mp tq5
theorem lk1200 : (Jvm.Cond.code ({ cls := "YawnRoute$Deeds", name := "tellsStations", desc := "(I)Z" } : Jvm.MethodName) prog_2_method_17_code (5 : Nat) (Option.some Jvm.ClassFile.FieldType.boolean)) ∈ lw_gd := mem_gd rr1200.1 rfl
def rr1201 := List.forall_mem_cons.mp rr1200.2
theorem lk1201 : (Jvm.Cond.methodLink "YawnRoute" (300 : Nat) ({ cls := "YawnRoute$Deeds", name := "dullsTold", desc := "(III)I" } : Jvm.MethodName)) ∈ lw_gd := mem_gd rr1201.1 rfl
def rr1202 := List.forall_mem_cons.mp rr1201.2
theorem lk1202 : (Jvm.Cond.instanceMethod ({ cls := "YawnRoute$Deeds", name := "dullsTold", desc := "(III)I" } : Jvm.MethodName)) ∈ lw_gd := mem_gd rr1202.1 rfl
def rr1203 := List.forall_mem_cons.mp rr1202.2
theorem lk1203 : (Jvm.Cond.selects "YawnRoute$Deeds" ({ cls := "YawnRoute$Deeds", name := "dullsTold", desc := "(III)I" } : Jvm.MethodName) ({ cls := "YawnRoute$Deeds", name := "dullsTold", desc := "(III)I" } : Jvm.MethodName)) ∈ lw_gd := mem_gd rr1203.1 rfl
def rr1204 := List.forall_mem_cons.mp rr1203.2
theorem lk1204 : (Jvm.Cond.code ({ cls := "YawnRoute$Deeds", name := "dullsTold", desc := "(III)I" } : Jvm.MethodName) prog_2_method_18_code (6 : Nat) (Option.some Jvm.ClassFile.FieldType.int)) ∈ lw_gd := mem_gd rr1204.1 rfl
def rr1205 := List.forall_mem_cons.mp rr1204.2
theorem lk1205 : (Jvm.Cond.methodLink "YawnRoute$Deeds" (145 : Nat) ({ cls := "YawnRoute$Deeds", name := "sizeTold", desc := "(III)I" } : Jvm.MethodName)) ∈ lw_gd := mem_gd rr1205.1 rfl
def rr1206 := List.forall_mem_cons.mp rr1205.2
def rr1207 := List.forall_mem_cons.mp rr1206.2
theorem lk1207 : (Jvm.Cond.instanceMethod ({ cls := "YawnRoute$Deeds", name := "sizeTold", desc := "(III)I" } : Jvm.MethodName)) ∈ lw_gd := mem_gd rr1207.1 rfl
def rr1208 := List.forall_mem_cons.mp rr1207.2
theorem lk1208 : (Jvm.Cond.code ({ cls := "YawnRoute$Deeds", name := "sizeTold", desc := "(III)I" } : Jvm.MethodName) prog_2_method_19_code (9 : Nat) (Option.some Jvm.ClassFile.FieldType.int)) ∈ lw_gd := mem_gd rr1208.1 rfl
def rr1209 := List.forall_mem_cons.mp rr1208.2
theorem lk1209 : (Jvm.Cond.methodLink "YawnRouteLaw" (144 : Nat) ({ cls := "YawnRoute", name := "attempt", desc := "(III)I" } : Jvm.MethodName)) ∈ lw_gd := mem_gd rr1209.1 rfl
def rr1210 := List.forall_mem_cons.mp rr1209.2
theorem lk1210 : (Jvm.Cond.instanceMethod ({ cls := "YawnRoute", name := "attempt", desc := "(III)I" } : Jvm.MethodName)) ∈ lw_gd := mem_gd rr1210.1 rfl
def rr1211 := List.forall_mem_cons.mp rr1210.2
theorem lk1211 : (Jvm.Cond.selects "YawnRoute" ({ cls := "YawnRoute", name := "attempt", desc := "(III)I" } : Jvm.MethodName) ({ cls := "YawnRoute", name := "attempt", desc := "(III)I" } : Jvm.MethodName)) ∈ lw_gd := mem_gd rr1211.1 rfl
def rr1212 := List.forall_mem_cons.mp rr1211.2
theorem lk1212 : (Jvm.Cond.code ({ cls := "YawnRoute", name := "attempt", desc := "(III)I" } : Jvm.MethodName) prog_1_method_33_code (6 : Nat) (Option.some Jvm.ClassFile.FieldType.int)) ∈ lw_gd := mem_gd rr1212.1 rfl
def rr1213 := List.forall_mem_cons.mp rr1212.2
theorem lk1213 : (Jvm.Cond.methodLink "YawnRoute" (303 : Nat) ({ cls := "YawnRoute$Deeds", name := "bestToTry", desc := "(III)I" } : Jvm.MethodName)) ∈ lw_gd := mem_gd rr1213.1 rfl
def rr1214 := List.forall_mem_cons.mp rr1213.2
theorem lk1214 : (Jvm.Cond.instanceMethod ({ cls := "YawnRoute$Deeds", name := "bestToTry", desc := "(III)I" } : Jvm.MethodName)) ∈ lw_gd := mem_gd rr1214.1 rfl
def rr1215 := List.forall_mem_cons.mp rr1214.2
theorem lk1215 : (Jvm.Cond.selects "YawnRoute$Deeds" ({ cls := "YawnRoute$Deeds", name := "bestToTry", desc := "(III)I" } : Jvm.MethodName) ({ cls := "YawnRoute$Deeds", name := "bestToTry", desc := "(III)I" } : Jvm.MethodName)) ∈ lw_gd := mem_gd rr1215.1 rfl
def rr1216 := List.forall_mem_cons.mp rr1215.2
theorem lk1216 : (Jvm.Cond.code ({ cls := "YawnRoute$Deeds", name := "bestToTry", desc := "(III)I" } : Jvm.MethodName) prog_2_method_20_code (8 : Nat) (Option.some Jvm.ClassFile.FieldType.int)) ∈ lw_gd := mem_gd rr1216.1 rfl
def rr1217 := List.forall_mem_cons.mp rr1216.2
theorem lk1217 : (Jvm.Cond.methodLink "YawnRoute$Deeds" (149 : Nat) ({ cls := "YawnRoute$Deeds", name := "mostAlike", desc := "(IIII)I" } : Jvm.MethodName)) ∈ lw_gd := mem_gd rr1217.1 rfl
def rr1218 := List.forall_mem_cons.mp rr1217.2
def rr1219 := List.forall_mem_cons.mp rr1218.2
theorem lk1219 : (Jvm.Cond.instanceMethod ({ cls := "YawnRoute$Deeds", name := "mostAlike", desc := "(IIII)I" } : Jvm.MethodName)) ∈ lw_gd := mem_gd rr1219.1 rfl
def rr1220 := List.forall_mem_cons.mp rr1219.2
theorem lk1220 : (Jvm.Cond.code ({ cls := "YawnRoute$Deeds", name := "mostAlike", desc := "(IIII)I" } : Jvm.MethodName) prog_2_method_21_code (9 : Nat) (Option.some Jvm.ClassFile.FieldType.int)) ∈ lw_gd := mem_gd rr1220.1 rfl
def rr1221 := List.forall_mem_cons.mp rr1220.2
theorem lk1221 : (Jvm.Cond.methodLink "YawnRoute$Deeds" (152 : Nat) ({ cls := "java/util/Arrays", name := "fill", desc := "([II)V" } : Jvm.MethodName)) ∈ lw_gd := mem_gd rr1221.1 rfl
def rr1222 := List.forall_mem_cons.mp rr1221.2
theorem lk1222 : (Jvm.Cond.methodLinkNest "YawnRoute$Deeds" (158 : Nat) ({ cls := "YawnRoute", name := "has", desc := "(II)Z" } : Jvm.MethodName) "YawnRoute") ∈ lw_tbl := rr1222.1
def rr1223 := List.forall_mem_cons.mp rr1222.2
theorem lk1223 : (Jvm.Cond.methodLink "YawnRoute$Deeds" (162 : Nat) ({ cls := "java/lang/Math", name := "max", desc := "(II)I" } : Jvm.MethodName)) ∈ lw_gd := mem_gd rr1223.1 rfl
def rr1224 := List.forall_mem_cons.mp rr1223.2
theorem lk1224 : (Jvm.Cond.methodLink "YawnRouteLaw" (148 : Nat) ({ cls := "YawnRoute", name := "forces", desc := "(I)I" } : Jvm.MethodName)) ∈ lw_gd := mem_gd rr1224.1 rfl
def rr1225 := List.forall_mem_cons.mp rr1224.2
theorem lk1225 : (Jvm.Cond.instanceMethod ({ cls := "YawnRoute", name := "forces", desc := "(I)I" } : Jvm.MethodName)) ∈ lw_gd := mem_gd rr1225.1 rfl
def rr1226 := List.forall_mem_cons.mp rr1225.2
theorem lk1226 : (Jvm.Cond.selects "YawnRoute" ({ cls := "YawnRoute", name := "forces", desc := "(I)I" } : Jvm.MethodName) ({ cls := "YawnRoute", name := "forces", desc := "(I)I" } : Jvm.MethodName)) ∈ lw_gd := mem_gd rr1226.1 rfl
def rr1227 := List.forall_mem_cons.mp rr1226.2
theorem lk1227 : (Jvm.Cond.code ({ cls := "YawnRoute", name := "forces", desc := "(I)I" } : Jvm.MethodName) prog_1_method_34_code (3 : Nat) (Option.some Jvm.ClassFile.FieldType.int)) ∈ lw_gd := mem_gd rr1227.1 rfl
def rr1228 := List.forall_mem_cons.mp rr1227.2
theorem lk1228 : (Jvm.Cond.methodLink "YawnRouteLaw" (152 : Nat) ({ cls := "YawnRoute", name := "best", desc := "(I)I" } : Jvm.MethodName)) ∈ lw_gd := mem_gd rr1228.1 rfl
def rr1229 := List.forall_mem_cons.mp rr1228.2
theorem lk1229 : (Jvm.Cond.instanceMethod ({ cls := "YawnRoute", name := "best", desc := "(I)I" } : Jvm.MethodName)) ∈ lw_gd := mem_gd rr1229.1 rfl
def rr1230 := List.forall_mem_cons.mp rr1229.2
theorem lk1230 : (Jvm.Cond.selects "YawnRoute" ({ cls := "YawnRoute", name := "best", desc := "(I)I" } : Jvm.MethodName) ({ cls := "YawnRoute", name := "best", desc := "(I)I" } : Jvm.MethodName)) ∈ lw_gd := mem_gd rr1230.1 rfl
def rr1231 := List.forall_mem_cons.mp rr1230.2
theorem lk1231 : (Jvm.Cond.code ({ cls := "YawnRoute", name := "best", desc := "(I)I" } : Jvm.MethodName) prog_1_method_35_code (3 : Nat) (Option.some Jvm.ClassFile.FieldType.int)) ∈ lw_gd := mem_gd rr1231.1 rfl
def rr1232 := List.forall_mem_cons.mp rr1231.2
theorem lk1232 : (Jvm.Cond.methodLink "YawnRoute" (306 : Nat) ({ cls := "YawnRoute", name := "forces", desc := "(I)I" } : Jvm.MethodName)) ∈ lw_gd := mem_gd rr1232.1 rfl
def rr1233 := List.forall_mem_cons.mp rr1232.2
theorem lk1233 : (Jvm.Cond.methodLink "YawnRouteLaw" (156 : Nat) ({ cls := "YawnRoute", name := "chance", desc := "(III)J" } : Jvm.MethodName)) ∈ lw_gd := mem_gd rr1233.1 rfl
def rr1234 := List.forall_mem_cons.mp rr1233.2
theorem lk1234 : (Jvm.Cond.instanceMethod ({ cls := "YawnRoute", name := "chance", desc := "(III)J" } : Jvm.MethodName)) ∈ lw_gd := mem_gd rr1234.1 rfl
def rr1235 := List.forall_mem_cons.mp rr1234.2
theorem lk1235 : (Jvm.Cond.selects "YawnRoute" ({ cls := "YawnRoute", name := "chance", desc := "(III)J" } : Jvm.MethodName) ({ cls := "YawnRoute", name := "chance", desc := "(III)J" } : Jvm.MethodName)) ∈ lw_gd := mem_gd rr1235.1 rfl
def rr1236 := List.forall_mem_cons.mp rr1235.2
theorem lk1236 : (Jvm.Cond.code ({ cls := "YawnRoute", name := "chance", desc := "(III)J" } : Jvm.MethodName) prog_1_method_36_code (8 : Nat) (Option.some Jvm.ClassFile.FieldType.long)) ∈ lw_gd := mem_gd rr1236.1 rfl
def rr1237 := List.forall_mem_cons.mp rr1236.2
theorem lk1237 : (Jvm.Cond.methodLink "YawnRoute" (309 : Nat) ({ cls := "YawnRoute", name := "isDraws", desc := "(I)Z" } : Jvm.MethodName)) ∈ lw_gd := mem_gd rr1237.1 rfl
def rr1238 := List.forall_mem_cons.mp rr1237.2
theorem lk1238 : (Jvm.Cond.static ({ cls := "YawnRoute", name := "isDraws", desc := "(I)Z" } : Jvm.MethodName)) ∈ lw_gd := mem_gd rr1238.1 rfl
def rr1239 := List.forall_mem_cons.mp rr1238.2
theorem lk1239 : (Jvm.Cond.code ({ cls := "YawnRoute", name := "isDraws", desc := "(I)Z" } : Jvm.MethodName) prog_1_method_51_code (1 : Nat) (Option.some Jvm.ClassFile.FieldType.boolean)) ∈ lw_gd := mem_gd rr1239.1 rfl
def rr1240 := List.forall_mem_cons.mp rr1239.2
theorem lk1240 : (Jvm.Cond.methodLink "YawnRoute" (312 : Nat) ({ cls := "YawnRoute$Steps", name := "drawLots", desc := "(I)V" } : Jvm.MethodName)) ∈ lw_gd := mem_gd rr1240.1 rfl
def rr1241 := List.forall_mem_cons.mp rr1240.2
theorem lk1241 : (Jvm.Cond.instanceMethod ({ cls := "YawnRoute$Steps", name := "drawLots", desc := "(I)V" } : Jvm.MethodName)) ∈ lw_gd := mem_gd rr1241.1 rfl
def rr1242 := List.forall_mem_cons.mp rr1241.2
theorem lk1242 : (Jvm.Cond.selects "YawnRoute$Steps" ({ cls := "YawnRoute$Steps", name := "drawLots", desc := "(I)V" } : Jvm.MethodName) ({ cls := "YawnRoute$Steps", name := "drawLots", desc := "(I)V" } : Jvm.MethodName)) ∈ lw_gd := mem_gd rr1242.1 rfl
def rr1243 := List.forall_mem_cons.mp rr1242.2
theorem lk1243 : (Jvm.Cond.code ({ cls := "YawnRoute$Steps", name := "drawLots", desc := "(I)V" } : Jvm.MethodName) prog_10_method_8_code (5 : Nat) (Option.none : Option Jvm.ClassFile.FieldType)) ∈ lw_gd := mem_gd rr1243.1 rfl
def rr1244 := List.forall_mem_cons.mp rr1243.2
theorem lk1244 : (Jvm.Cond.methodLink "YawnRoute$Steps" (86 : Nat) ({ cls := "YawnRoute$Steps", name := "drawFrom", desc := "(I[I[I)V" } : Jvm.MethodName)) ∈ lw_gd := mem_gd rr1244.1 rfl
def rr1245 := List.forall_mem_cons.mp rr1244.2
def rr1246 := List.forall_mem_cons.mp rr1245.2
theorem lk1246 : (Jvm.Cond.instanceMethod ({ cls := "YawnRoute$Steps", name := "drawFrom", desc := "(I[I[I)V" } : Jvm.MethodName)) ∈ lw_gd := mem_gd rr1246.1 rfl
def rr1247 := List.forall_mem_cons.mp rr1246.2
theorem lk1247 : (Jvm.Cond.code ({ cls := "YawnRoute$Steps", name := "drawFrom", desc := "(I[I[I)V" } : Jvm.MethodName) prog_10_method_9_code (8 : Nat) (Option.none : Option Jvm.ClassFile.FieldType)) ∈ lw_gd := mem_gd rr1247.1 rfl
def rr1248 := List.forall_mem_cons.mp rr1247.2
theorem lk1248 : (Jvm.Cond.methodLinkNest "YawnRoute$Steps" (90 : Nat) ({ cls := "YawnRoute", name := "stationIn", desc := "(I)I" } : Jvm.MethodName) "YawnRoute") ∈ lw_tbl := rr1248.1
def rr1249 := List.forall_mem_cons.mp rr1248.2
theorem lk1249 : (Jvm.Cond.methodLink "YawnRoute$Steps" (94 : Nat) ({ cls := "YawnRoute$Net", name := "oddsOf", desc := "(II)I" } : Jvm.MethodName)) ∈ lw_gd := mem_gd rr1249.1 rfl
def rr1250 := List.forall_mem_cons.mp rr1249.2
theorem lk1250 : (Jvm.Cond.methodLink "YawnRoute$Steps" (97 : Nat) ({ cls := "java/lang/Math", name := "min", desc := "(II)I" } : Jvm.MethodName)) ∈ lw_gd := mem_gd rr1250.1 rfl
def rr1251 := List.forall_mem_cons.mp rr1250.2
theorem lk1251 : (Jvm.Cond.methodLink "YawnRoute$Steps" (102 : Nat) ({ cls := "YawnRoute$Passings", name := "after", desc := "(III)I" } : Jvm.MethodName)) ∈ lw_gd := mem_gd rr1251.1 rfl
def rr1252 := List.forall_mem_cons.mp rr1251.2
theorem lk1252 : (Jvm.Cond.methodLinkNest "YawnRoute$Steps" (105 : Nat) ({ cls := "YawnRoute", name := "placeOf", desc := "(II)I" } : Jvm.MethodName) "YawnRoute") ∈ lw_tbl := rr1252.1
def rr1253 := List.forall_mem_cons.mp rr1252.2
theorem lk1253 : (Jvm.Cond.methodLink "YawnRoute" (315 : Nat) ({ cls := "YawnRoute$Steps", name := "shareOf", desc := "(II)I" } : Jvm.MethodName)) ∈ lw_gd := mem_gd rr1253.1 rfl
def rr1254 := List.forall_mem_cons.mp rr1253.2
theorem lk1254 : (Jvm.Cond.instanceMethod ({ cls := "YawnRoute$Steps", name := "shareOf", desc := "(II)I" } : Jvm.MethodName)) ∈ lw_gd := mem_gd rr1254.1 rfl
def rr1255 := List.forall_mem_cons.mp rr1254.2
theorem lk1255 : (Jvm.Cond.selects "YawnRoute$Steps" ({ cls := "YawnRoute$Steps", name := "shareOf", desc := "(II)I" } : Jvm.MethodName) ({ cls := "YawnRoute$Steps", name := "shareOf", desc := "(II)I" } : Jvm.MethodName)) ∈ lw_gd := mem_gd rr1255.1 rfl
def rr1256 := List.forall_mem_cons.mp rr1255.2
theorem lk1256 : (Jvm.Cond.code ({ cls := "YawnRoute$Steps", name := "shareOf", desc := "(II)I" } : Jvm.MethodName) prog_10_method_10_code (6 : Nat) (Option.some Jvm.ClassFile.FieldType.int)) ∈ lw_gd := mem_gd rr1256.1 rfl
def rr1257 := List.forall_mem_cons.mp rr1256.2
theorem lk1257 : (Jvm.Cond.methodLink "YawnRoute" (318 : Nat) ({ cls := "YawnRoute$Steps", name := "sharesIn", desc := "(I)I" } : Jvm.MethodName)) ∈ lw_gd := mem_gd rr1257.1 rfl
def rr1258 := List.forall_mem_cons.mp rr1257.2
theorem lk1258 : (Jvm.Cond.instanceMethod ({ cls := "YawnRoute$Steps", name := "sharesIn", desc := "(I)I" } : Jvm.MethodName)) ∈ lw_gd := mem_gd rr1258.1 rfl
def rr1259 := List.forall_mem_cons.mp rr1258.2
theorem lk1259 : (Jvm.Cond.selects "YawnRoute$Steps" ({ cls := "YawnRoute$Steps", name := "sharesIn", desc := "(I)I" } : Jvm.MethodName) ({ cls := "YawnRoute$Steps", name := "sharesIn", desc := "(I)I" } : Jvm.MethodName)) ∈ lw_gd := mem_gd rr1259.1 rfl
def rr1260 := List.forall_mem_cons.mp rr1259.2
theorem lk1260 : (Jvm.Cond.code ({ cls := "YawnRoute$Steps", name := "sharesIn", desc := "(I)I" } : Jvm.MethodName) prog_10_method_11_code (4 : Nat) (Option.some Jvm.ClassFile.FieldType.int)) ∈ lw_gd := mem_gd rr1260.1 rfl
def rr1261 := List.forall_mem_cons.mp rr1260.2
theorem lk1261 : (Jvm.Cond.methodLink "YawnRoute" (321 : Nat) ({ cls := "YawnRoute", name := "commonDivisor", desc := "(II)I" } : Jvm.MethodName)) ∈ lw_gd := mem_gd rr1261.1 rfl
def rr1262 := List.forall_mem_cons.mp rr1261.2
theorem lk1262 : (Jvm.Cond.static ({ cls := "YawnRoute", name := "commonDivisor", desc := "(II)I" } : Jvm.MethodName)) ∈ lw_gd := mem_gd rr1262.1 rfl
def rr1263 := List.forall_mem_cons.mp rr1262.2
theorem lk1263 : (Jvm.Cond.code ({ cls := "YawnRoute", name := "commonDivisor", desc := "(II)I" } : Jvm.MethodName) prog_1_method_57_code (6 : Nat) (Option.some Jvm.ClassFile.FieldType.int)) ∈ lw_gd := mem_gd rr1263.1 rfl
def rr1264 := List.forall_mem_cons.mp rr1263.2
theorem lk1264 : (Jvm.Cond.methodLink "YawnRoute" (375 : Nat) ({ cls := "java/lang/Math", name := "max", desc := "(II)I" } : Jvm.MethodName)) ∈ lw_gd := mem_gd rr1264.1 rfl
def rr1265 := List.forall_mem_cons.mp rr1264.2
theorem lk1265 : (Jvm.Cond.methodLink "YawnRouteLaw" (160 : Nat) ({ cls := "YawnRoute", name := "likeliest", desc := "(I)I" } : Jvm.MethodName)) ∈ lw_gd := mem_gd rr1265.1 rfl
def rr1266 := List.forall_mem_cons.mp rr1265.2
theorem lk1266 : (Jvm.Cond.instanceMethod ({ cls := "YawnRoute", name := "likeliest", desc := "(I)I" } : Jvm.MethodName)) ∈ lw_gd := mem_gd rr1266.1 rfl
def rr1267 := List.forall_mem_cons.mp rr1266.2
theorem lk1267 : (Jvm.Cond.selects "YawnRoute" ({ cls := "YawnRoute", name := "likeliest", desc := "(I)I" } : Jvm.MethodName) ({ cls := "YawnRoute", name := "likeliest", desc := "(I)I" } : Jvm.MethodName)) ∈ lw_gd := mem_gd rr1267.1 rfl
def rr1268 := List.forall_mem_cons.mp rr1267.2
theorem lk1268 : (Jvm.Cond.code ({ cls := "YawnRoute", name := "likeliest", desc := "(I)I" } : Jvm.MethodName) prog_1_method_37_code (3 : Nat) (Option.some Jvm.ClassFile.FieldType.int)) ∈ lw_gd := mem_gd rr1268.1 rfl
def rr1269 := List.forall_mem_cons.mp rr1268.2
theorem lk1269 : (Jvm.Cond.methodLink "YawnRoute" (324 : Nat) ({ cls := "YawnRoute$Steps", name := "greatestShare", desc := "(I)I" } : Jvm.MethodName)) ∈ lw_gd := mem_gd rr1269.1 rfl
def rr1270 := List.forall_mem_cons.mp rr1269.2
theorem lk1270 : (Jvm.Cond.instanceMethod ({ cls := "YawnRoute$Steps", name := "greatestShare", desc := "(I)I" } : Jvm.MethodName)) ∈ lw_gd := mem_gd rr1270.1 rfl
def rr1271 := List.forall_mem_cons.mp rr1270.2
theorem lk1271 : (Jvm.Cond.selects "YawnRoute$Steps" ({ cls := "YawnRoute$Steps", name := "greatestShare", desc := "(I)I" } : Jvm.MethodName) ({ cls := "YawnRoute$Steps", name := "greatestShare", desc := "(I)I" } : Jvm.MethodName)) ∈ lw_gd := mem_gd rr1271.1 rfl
def rr1272 := List.forall_mem_cons.mp rr1271.2
theorem lk1272 : (Jvm.Cond.code ({ cls := "YawnRoute$Steps", name := "greatestShare", desc := "(I)I" } : Jvm.MethodName) prog_10_method_12_code (5 : Nat) (Option.some Jvm.ClassFile.FieldType.int)) ∈ lw_gd := mem_gd rr1272.1 rfl
def rr1273 := List.forall_mem_cons.mp rr1272.2
theorem lk1273 : (Jvm.Cond.methodLink "YawnRoute$Steps" (108 : Nat) ({ cls := "YawnRoute$Steps", name := "shareOf", desc := "(II)I" } : Jvm.MethodName)) ∈ lw_gd := mem_gd rr1273.1 rfl
def rr1274 := List.forall_mem_cons.mp rr1273.2
theorem lk1274 : (Jvm.Cond.methodLink "YawnRouteLaw" (164 : Nat) ({ cls := "YawnRoute", name := "numbers", desc := "(III)I" } : Jvm.MethodName)) ∈ lw_gd := mem_gd rr1274.1 rfl
def rr1275 := List.forall_mem_cons.mp rr1274.2
theorem lk1275 : (Jvm.Cond.instanceMethod ({ cls := "YawnRoute", name := "numbers", desc := "(III)I" } : Jvm.MethodName)) ∈ lw_gd := mem_gd rr1275.1 rfl
def rr1276 := List.forall_mem_cons.mp rr1275.2
theorem lk1276 : (Jvm.Cond.selects "YawnRoute" ({ cls := "YawnRoute", name := "numbers", desc := "(III)I" } : Jvm.MethodName) ({ cls := "YawnRoute", name := "numbers", desc := "(III)I" } : Jvm.MethodName)) ∈ lw_gd := mem_gd rr1276.1 rfl
def rr1277 := List.forall_mem_cons.mp rr1276.2
theorem lk1277 : (Jvm.Cond.code ({ cls := "YawnRoute", name := "numbers", desc := "(III)I" } : Jvm.MethodName) prog_1_method_38_code (4 : Nat) (Option.some Jvm.ClassFile.FieldType.int)) ∈ lw_gd := mem_gd rr1277.1 rfl
def rr1278 := List.forall_mem_cons.mp rr1277.2
theorem lk1278 : (Jvm.Cond.methodLink "YawnRoute" (327 : Nat) ({ cls := "YawnRoute$Trays", name := "make", desc := "(III)V" } : Jvm.MethodName)) ∈ lw_gd := mem_gd rr1278.1 rfl
def rr1279 := List.forall_mem_cons.mp rr1278.2
theorem lk1279 : (Jvm.Cond.instanceMethod ({ cls := "YawnRoute$Trays", name := "make", desc := "(III)V" } : Jvm.MethodName)) ∈ lw_gd := mem_gd rr1279.1 rfl
def rr1280 := List.forall_mem_cons.mp rr1279.2
theorem lk1280 : (Jvm.Cond.selects "YawnRoute$Trays" ({ cls := "YawnRoute$Trays", name := "make", desc := "(III)V" } : Jvm.MethodName) ({ cls := "YawnRoute$Trays", name := "make", desc := "(III)V" } : Jvm.MethodName)) ∈ lw_gd := mem_gd rr1280.1 rfl
def rr1281 := List.forall_mem_cons.mp rr1280.2
theorem lk1281 : (Jvm.Cond.code ({ cls := "YawnRoute$Trays", name := "make", desc := "(III)V" } : Jvm.MethodName) prog_12_method_5_code (4 : Nat) (Option.none : Option Jvm.ClassFile.FieldType)) ∈ lw_gd := mem_gd rr1281.1 rfl
def rr1282 := List.forall_mem_cons.mp rr1281.2
theorem lk1282 : (Jvm.Cond.methodLink "YawnRoute$Trays" (27 : Nat) ({ cls := "java/util/Arrays", name := "fill", desc := "([JJ)V" } : Jvm.MethodName)) ∈ lw_gd := mem_gd rr1282.1 rfl
def rr1283 := List.forall_mem_cons.mp rr1282.2
theorem lk1283 : (Jvm.Cond.methodLink "YawnRouteLaw" (170 : Nat) ({ cls := "YawnRoute", name := "write", desc := "(IIJ)J" } : Jvm.MethodName)) ∈ lw_gd := mem_gd rr1283.1 rfl
def rr1284 := List.forall_mem_cons.mp rr1283.2
theorem lk1284 : (Jvm.Cond.instanceMethod ({ cls := "YawnRoute", name := "write", desc := "(IIJ)J" } : Jvm.MethodName)) ∈ lw_gd := mem_gd rr1284.1 rfl
def rr1285 := List.forall_mem_cons.mp rr1284.2
theorem lk1285 : (Jvm.Cond.selects "YawnRoute" ({ cls := "YawnRoute", name := "write", desc := "(IIJ)J" } : Jvm.MethodName) ({ cls := "YawnRoute", name := "write", desc := "(IIJ)J" } : Jvm.MethodName)) ∈ lw_gd := mem_gd rr1285.1 rfl
def rr1286 := List.forall_mem_cons.mp rr1285.2
theorem lk1286 : (Jvm.Cond.code ({ cls := "YawnRoute", name := "write", desc := "(IIJ)J" } : Jvm.MethodName) prog_1_method_39_code (5 : Nat) (Option.some Jvm.ClassFile.FieldType.long)) ∈ lw_gd := mem_gd rr1286.1 rfl
def rr1287 := List.forall_mem_cons.mp rr1286.2
theorem lk1287 : (Jvm.Cond.constantLong "YawnRoute" (331 : Nat) (-2 : Int64)) ∈ lw_gd := mem_gd rr1287.1 rfl
def rr1288 := List.forall_mem_cons.mp rr1287.2
theorem lk1288 : (Jvm.Cond.constantLong "YawnRoute" (333 : Nat) (-6 : Int64)) ∈ lw_gd := mem_gd rr1288.1 rfl
def rr1289 := List.forall_mem_cons.mp rr1288.2
theorem lk1289 : (Jvm.Cond.constantLong "YawnRoute" (335 : Nat) (-7 : Int64)) ∈ lw_gd := mem_gd rr1289.1 rfl
def rr1290 := List.forall_mem_cons.mp rr1289.2
theorem lk1290 : (Jvm.Cond.methodLink "YawnRoute" (337 : Nat) ({ cls := "YawnRoute$Trays", name := "put", desc := "(IIJ)V" } : Jvm.MethodName)) ∈ lw_gd := mem_gd rr1290.1 rfl
def rr1291 := List.forall_mem_cons.mp rr1290.2
theorem lk1291 : (Jvm.Cond.instanceMethod ({ cls := "YawnRoute$Trays", name := "put", desc := "(IIJ)V" } : Jvm.MethodName)) ∈ lw_gd := mem_gd rr1291.1 rfl
def rr1292 := List.forall_mem_cons.mp rr1291.2
theorem lk1292 : (Jvm.Cond.selects "YawnRoute$Trays" ({ cls := "YawnRoute$Trays", name := "put", desc := "(IIJ)V" } : Jvm.MethodName) ({ cls := "YawnRoute$Trays", name := "put", desc := "(IIJ)V" } : Jvm.MethodName)) ∈ lw_gd := mem_gd rr1292.1 rfl
def rr1293 := List.forall_mem_cons.mp rr1292.2
theorem lk1293 : (Jvm.Cond.code ({ cls := "YawnRoute$Trays", name := "put", desc := "(IIJ)V" } : Jvm.MethodName) prog_12_method_6_code (5 : Nat) (Option.none : Option Jvm.ClassFile.FieldType)) ∈ lw_gd := mem_gd rr1293.1 rfl
def rr1294 := List.forall_mem_cons.mp rr1293.2
theorem lk1294 : (Jvm.Cond.methodLink "YawnRoute$Trays" (33 : Nat) ({ cls := "YawnRoute$Trays", name := "cut", desc := "(IJ)J" } : Jvm.MethodName)) ∈ lw_gd := mem_gd rr1294.1 rfl
def rr1295 := List.forall_mem_cons.mp rr1294.2
theorem lk1295 : (Jvm.Cond.static ({ cls := "YawnRoute$Trays", name := "cut", desc := "(IJ)J" } : Jvm.MethodName)) ∈ lw_gd := mem_gd rr1295.1 rfl
def rr1296 := List.forall_mem_cons.mp rr1295.2
theorem lk1296 : (Jvm.Cond.code ({ cls := "YawnRoute$Trays", name := "cut", desc := "(IJ)J" } : Jvm.MethodName) prog_12_method_8_code (3 : Nat) (Option.some Jvm.ClassFile.FieldType.long)) ∈ lw_gd := mem_gd rr1296.1 rfl
def rr1297 := List.forall_mem_cons.mp rr1296.2
theorem lk1297 : (Jvm.Cond.methodLink "YawnRoute" (341 : Nat) ({ cls := "YawnRoute$Trays", name := "numberAt", desc := "(II)J" } : Jvm.MethodName)) ∈ lw_gd := mem_gd rr1297.1 rfl
def rr1298 := List.forall_mem_cons.mp rr1297.2
theorem lk1298 : (Jvm.Cond.methodLink "YawnRouteLaw" (175 : Nat) ({ cls := "YawnRoute", name := "lists", desc := "(II)I" } : Jvm.MethodName)) ∈ lw_gd := mem_gd rr1298.1 rfl
def rr1299 := List.forall_mem_cons.mp rr1298.2
theorem lk1299 : (Jvm.Cond.instanceMethod ({ cls := "YawnRoute", name := "lists", desc := "(II)I" } : Jvm.MethodName)) ∈ lw_gd := mem_gd rr1299.1 rfl
def rr1300 := List.forall_mem_cons.mp rr1299.2
theorem lk1300 : (Jvm.Cond.selects "YawnRoute" ({ cls := "YawnRoute", name := "lists", desc := "(II)I" } : Jvm.MethodName) ({ cls := "YawnRoute", name := "lists", desc := "(II)I" } : Jvm.MethodName)) ∈ lw_gd := mem_gd rr1300.1 rfl
def rr1301 := List.forall_mem_cons.mp rr1300.2
theorem lk1301 : (Jvm.Cond.code ({ cls := "YawnRoute", name := "lists", desc := "(II)I" } : Jvm.MethodName) prog_1_method_40_code (5 : Nat) (Option.some Jvm.ClassFile.FieldType.int)) ∈ lw_gd := mem_gd rr1301.1 rfl
def rr1302 := List.forall_mem_cons.mp rr1301.2
theorem lk1302 : (Jvm.Cond.methodLink "YawnRoute" (345 : Nat) ({ cls := "java/lang/Math", name := "min", desc := "(II)I" } : Jvm.MethodName)) ∈ lw_gd := mem_gd rr1302.1 rfl
def rr1303 := List.forall_mem_cons.mp rr1302.2
theorem lk1303 : (Jvm.Cond.methodLink "YawnRouteLaw" (179 : Nat) ({ cls := "YawnRoute", name := "image", desc := "(I)I" } : Jvm.MethodName)) ∈ lw_gd := mem_gd rr1303.1 rfl
def rr1304 := List.forall_mem_cons.mp rr1303.2
theorem lk1304 : (Jvm.Cond.instanceMethod ({ cls := "YawnRoute", name := "image", desc := "(I)I" } : Jvm.MethodName)) ∈ lw_gd := mem_gd rr1304.1 rfl
def rr1305 := List.forall_mem_cons.mp rr1304.2
theorem lk1305 : (Jvm.Cond.selects "YawnRoute" ({ cls := "YawnRoute", name := "image", desc := "(I)I" } : Jvm.MethodName) ({ cls := "YawnRoute", name := "image", desc := "(I)I" } : Jvm.MethodName)) ∈ lw_gd := mem_gd rr1305.1 rfl
def rr1306 := List.forall_mem_cons.mp rr1305.2
theorem lk1306 : (Jvm.Cond.code ({ cls := "YawnRoute", name := "image", desc := "(I)I" } : Jvm.MethodName) prog_1_method_41_code (2 : Nat) (Option.some Jvm.ClassFile.FieldType.int)) ∈ lw_gd := mem_gd rr1306.1 rfl
def rr1307 := List.forall_mem_cons.mp rr1306.2
theorem lk1307 : (Jvm.Cond.methodLink "YawnRouteLaw" (183 : Nat) ({ cls := "YawnRoute", name := "restore", desc := "(I)I" } : Jvm.MethodName)) ∈ lw_gd := mem_gd rr1307.1 rfl
def rr1308 := List.forall_mem_cons.mp rr1307.2
theorem lk1308 : (Jvm.Cond.instanceMethod ({ cls := "YawnRoute", name := "restore", desc := "(I)I" } : Jvm.MethodName)) ∈ lw_gd := mem_gd rr1308.1 rfl
def rr1309 := List.forall_mem_cons.mp rr1308.2
theorem lk1309 : (Jvm.Cond.selects "YawnRoute" ({ cls := "YawnRoute", name := "restore", desc := "(I)I" } : Jvm.MethodName) ({ cls := "YawnRoute", name := "restore", desc := "(I)I" } : Jvm.MethodName)) ∈ lw_gd := mem_gd rr1309.1 rfl
def rr1310 := List.forall_mem_cons.mp rr1309.2
theorem lk1310 : (Jvm.Cond.code ({ cls := "YawnRoute", name := "restore", desc := "(I)I" } : Jvm.MethodName) prog_1_method_42_code (2 : Nat) (Option.some Jvm.ClassFile.FieldType.int)) ∈ lw_gd := mem_gd rr1310.1 rfl
def rr1311 := List.forall_mem_cons.mp rr1310.2
theorem lk1311 : (Jvm.Cond.methodLink "YawnRouteLaw" (187 : Nat) ({ cls := "YawnRoute", name := "count", desc := "(I)I" } : Jvm.MethodName)) ∈ lw_gd := mem_gd rr1311.1 rfl
def rr1312 := List.forall_mem_cons.mp rr1311.2
theorem lk1312 : (Jvm.Cond.instanceMethod ({ cls := "YawnRoute", name := "count", desc := "(I)I" } : Jvm.MethodName)) ∈ lw_gd := mem_gd rr1312.1 rfl
def rr1313 := List.forall_mem_cons.mp rr1312.2
theorem lk1313 : (Jvm.Cond.selects "YawnRoute" ({ cls := "YawnRoute", name := "count", desc := "(I)I" } : Jvm.MethodName) ({ cls := "YawnRoute", name := "count", desc := "(I)I" } : Jvm.MethodName)) ∈ lw_gd := mem_gd rr1313.1 rfl
def rr1314 := List.forall_mem_cons.mp rr1313.2
theorem lk1314 : (Jvm.Cond.code ({ cls := "YawnRoute", name := "count", desc := "(I)I" } : Jvm.MethodName) prog_1_method_43_code (2 : Nat) (Option.some Jvm.ClassFile.FieldType.int)) ∈ lw_gd := mem_gd rr1314.1 rfl
def rr1315 := List.forall_mem_cons.mp rr1314.2
theorem lk1315 : (Jvm.Cond.methodLink "YawnRoute" (363 : Nat) ({ cls := "YawnRoute$Net", name := "waysInAll", desc := "()I" } : Jvm.MethodName)) ∈ lw_gd := mem_gd rr1315.1 rfl
def rr1316 := List.forall_mem_cons.mp rr1315.2
theorem lk1316 : (Jvm.Cond.instanceMethod ({ cls := "YawnRoute$Net", name := "waysInAll", desc := "()I" } : Jvm.MethodName)) ∈ lw_gd := mem_gd rr1316.1 rfl
def rr1317 := List.forall_mem_cons.mp rr1316.2
theorem lk1317 : (Jvm.Cond.selects "YawnRoute$Net" ({ cls := "YawnRoute$Net", name := "waysInAll", desc := "()I" } : Jvm.MethodName) ({ cls := "YawnRoute$Net", name := "waysInAll", desc := "()I" } : Jvm.MethodName)) ∈ lw_gd := mem_gd rr1317.1 rfl
def rr1318 := List.forall_mem_cons.mp rr1317.2
theorem lk1318 : (Jvm.Cond.code ({ cls := "YawnRoute$Net", name := "waysInAll", desc := "()I" } : Jvm.MethodName) prog_4_method_9_code (3 : Nat) (Option.some Jvm.ClassFile.FieldType.int)) ∈ lw_gd := mem_gd rr1318.1 rfl
def rr1319 := List.forall_mem_cons.mp rr1318.2
theorem lk1319 : (Jvm.Cond.methodLink "YawnRoute$Net" (72 : Nat) ({ cls := "YawnRoute$Net", name := "waysFrom", desc := "(I)I" } : Jvm.MethodName)) ∈ lw_gd := mem_gd rr1319.1 rfl
def rr1320 := List.forall_mem_cons.mp rr1319.2
theorem lk1320 : (Jvm.Cond.methodLink "YawnRoute$Net" (76 : Nat) ({ cls := "java/lang/Integer", name := "bitCount", desc := "(I)I" } : Jvm.MethodName)) ∈ lw_gd := mem_gd rr1320.1 rfl
def rr1321 := List.forall_mem_cons.mp rr1320.2
theorem lk1321 : (Jvm.Cond.classLink "YawnRouteLaw" (10 : Nat) "YawnRouteModel") ∈ lw_gd := mem_gd rr1321.1 rfl
def rr1322 := List.forall_mem_cons.mp rr1321.2
theorem lk1322 : (Jvm.Cond.instantiable "YawnRouteModel" (33 : Nat)) ∈ lw_gd := mem_gd rr1322.1 rfl
def rr1323 := List.forall_mem_cons.mp rr1322.2
theorem lk1323 : (Jvm.Cond.methodLink "YawnRouteLaw" (12 : Nat) ({ cls := "YawnRouteModel", name := "<init>", desc := "()V" } : Jvm.MethodName)) ∈ lw_gd := mem_gd rr1323.1 rfl
def rr1324 := List.forall_mem_cons.mp rr1323.2
theorem lk1324 : (Jvm.Cond.instanceMethod ({ cls := "YawnRouteModel", name := "<init>", desc := "()V" } : Jvm.MethodName)) ∈ lw_gd := mem_gd rr1324.1 rfl
def rr1325 := List.forall_mem_cons.mp rr1324.2
theorem lk1325 : (Jvm.Cond.code ({ cls := "YawnRouteModel", name := "<init>", desc := "()V" } : Jvm.MethodName) prog_14_method_3_code (1 : Nat) (Option.none : Option Jvm.ClassFile.FieldType)) ∈ lw_gd := mem_gd rr1325.1 rfl
def rr1326 := List.forall_mem_cons.mp rr1325.2
theorem lk1326 : (Jvm.Cond.methodLink "YawnRouteModel" (7 : Nat) ({ cls := "java/lang/Object", name := "<init>", desc := "()V" } : Jvm.MethodName)) ∈ lw_gd := mem_gd rr1326.1 rfl
def rr1327 := List.forall_mem_cons.mp rr1326.2
theorem lk1327 : (Jvm.Cond.methodLink "YawnRouteModel" (79 : Nat) ({ cls := "YawnRouteModel", name := "plain", desc := "([I)V" } : Jvm.MethodName)) ∈ lw_gd := mem_gd rr1327.1 rfl
def rr1328 := List.forall_mem_cons.mp rr1327.2
theorem lk1328 : (Jvm.Cond.static ({ cls := "YawnRouteModel", name := "plain", desc := "([I)V" } : Jvm.MethodName)) ∈ lw_gd := mem_gd rr1328.1 rfl
def rr1329 := List.forall_mem_cons.mp rr1328.2
theorem lk1329 : (Jvm.Cond.code ({ cls := "YawnRouteModel", name := "plain", desc := "([I)V" } : Jvm.MethodName) prog_14_method_4_code (2 : Nat) (Option.none : Option Jvm.ClassFile.FieldType)) ∈ lw_gd := mem_gd rr1329.1 rfl
def rr1330 := List.forall_mem_cons.mp rr1329.2
theorem lk1330 : (Jvm.Cond.fieldLink "YawnRouteModel" (1 : Nat) "YawnRouteModel" "thrown" "I") ∈ lw_gd := mem_gd rr1330.1 rfl
def rr1331 := List.forall_mem_cons.mp rr1330.2
theorem lk1331 : (Jvm.Cond.fieldLink "YawnRouteModel" (13 : Nat) "YawnRouteModel" "all" "[I") ∈ lw_gd := mem_gd rr1331.1 rfl
def rr1332 := List.forall_mem_cons.mp rr1331.2
theorem lk1332 : (Jvm.Cond.fieldLink "YawnRouteModel" (17 : Nat) "YawnRouteModel" "hasImage" "[Z") ∈ lw_gd := mem_gd rr1332.1 rfl
def rr1333 := List.forall_mem_cons.mp rr1332.2
theorem lk1333 : (Jvm.Cond.fieldLink "YawnRouteModel" (21 : Nat) "YawnRouteModel" "tape" "[I") ∈ lw_gd := mem_gd rr1333.1 rfl
def rr1334 := List.forall_mem_cons.mp rr1333.2
theorem lk1334 : (Jvm.Cond.fieldLink "YawnRouteModel" (24 : Nat) "YawnRouteModel" "fresh" "[I") ∈ lw_gd := mem_gd rr1334.1 rfl
def rr1335 := List.forall_mem_cons.mp rr1334.2
theorem lk1335 : (Jvm.Cond.fieldLink "YawnRouteModel" (83 : Nat) "YawnRouteModel" "taped" "I") ∈ lw_gd := mem_gd rr1335.1 rfl
def rr1336 := List.forall_mem_cons.mp rr1335.2
theorem lk1336 : (Jvm.Cond.fieldLink "YawnRouteModel" (101 : Nat) "YawnRouteModel" "at" "I") ∈ lw_gd := mem_gd rr1336.1 rfl
def rr1337 := List.forall_mem_cons.mp rr1336.2
theorem lk1337 : (Jvm.Cond.fieldLink "YawnRouteModel" (104 : Nat) "YawnRouteModel" "behind" "I") ∈ lw_gd := mem_gd rr1337.1 rfl
def rr1338 := List.forall_mem_cons.mp rr1337.2
theorem lk1338 : (Jvm.Cond.fieldLink "YawnRouteModel" (86 : Nat) "YawnRouteModel" "size" "I") ∈ lw_gd := mem_gd rr1338.1 rfl
def rr1339 := List.forall_mem_cons.mp rr1338.2
theorem lk1339 : (Jvm.Cond.fieldLink "YawnRouteModel" (111 : Nat) "YawnRouteModel" "kind" "I") ∈ lw_gd := mem_gd rr1339.1 rfl
def rr1340 := List.forall_mem_cons.mp rr1339.2
theorem lk1340 : (Jvm.Cond.fieldLink "YawnRouteModel" (124 : Nat) "YawnRouteModel" "number" "I") ∈ lw_gd := mem_gd rr1340.1 rfl
def rr1341 := List.forall_mem_cons.mp rr1340.2
theorem lk1341 : (Jvm.Cond.fieldLink "YawnRouteModel" (129 : Nat) "YawnRouteModel" "wrong" "I") ∈ lw_gd := mem_gd rr1341.1 rfl
def rr1342 := List.forall_mem_cons.mp rr1341.2
theorem lk1342 : (Jvm.Cond.fieldLink "YawnRouteModel" (132 : Nat) "YawnRouteModel" "wrongAt" "I") ∈ lw_gd := mem_gd rr1342.1 rfl
def rr1343 := List.forall_mem_cons.mp rr1342.2
theorem lk1343 : (Jvm.Cond.fieldLink "YawnRouteModel" (207 : Nat) "YawnRouteModel" "faultKind" "I") ∈ lw_gd := mem_gd rr1343.1 rfl
def rr1344 := List.forall_mem_cons.mp rr1343.2
theorem lk1344 : (Jvm.Cond.fieldLink "YawnRouteModel" (27 : Nat) "YawnRouteModel" "faultPlace" "I") ∈ lw_gd := mem_gd rr1344.1 rfl
def rr1345 := List.forall_mem_cons.mp rr1344.2
theorem lk1345 : (Jvm.Cond.fieldLink "YawnRouteModel" (30 : Nat) "YawnRouteModel" "reckoned" "[I") ∈ lw_gd := mem_gd rr1345.1 rfl
def rr1346 := List.forall_mem_cons.mp rr1345.2
theorem lk1346 : (Jvm.Cond.fieldLink "YawnRouteModel" (33 : Nat) "YawnRouteModel" "words" "[I") ∈ lw_gd := mem_gd rr1346.1 rfl
def rr1347 := List.forall_mem_cons.mp rr1346.2
theorem lk1347 : (Jvm.Cond.fieldLink "YawnRouteModel" (36 : Nat) "YawnRouteModel" "was" "[I") ∈ lw_gd := mem_gd rr1347.1 rfl
def rr1348 := List.forall_mem_cons.mp rr1347.2
theorem lk1348 : (Jvm.Cond.fieldLink "YawnRouteModel" (275 : Nat) "YawnRouteModel" "toldWhy" "I") ∈ lw_gd := mem_gd rr1348.1 rfl
def rr1349 := List.forall_mem_cons.mp rr1348.2
theorem lk1349 : (Jvm.Cond.fieldLink "YawnRouteModel" (296 : Nat) "YawnRouteModel" "x" "I") ∈ lw_gd := mem_gd rr1349.1 rfl
def rr1350 := List.forall_mem_cons.mp rr1349.2
theorem lk1350 : (Jvm.Cond.fieldLink "YawnRouteModel" (39 : Nat) "YawnRouteModel" "then" "[I") ∈ lw_gd := mem_gd rr1350.1 rfl
def rr1351 := List.forall_mem_cons.mp rr1350.2
theorem lk1351 : (Jvm.Cond.fieldLink "YawnRouteModel" (42 : Nat) "YawnRouteModel" "far" "[I") ∈ lw_gd := mem_gd rr1351.1 rfl
def rr1352 := List.forall_mem_cons.mp rr1351.2
theorem lk1352 : (Jvm.Cond.fieldLink "YawnRouteModel" (45 : Nat) "YawnRouteModel" "reached" "[Z") ∈ lw_gd := mem_gd rr1352.1 rfl
def rr1353 := List.forall_mem_cons.mp rr1352.2
theorem lk1353 : (Jvm.Cond.fieldLink "YawnRouteModel" (48 : Nat) "YawnRouteModel" "has" "[I") ∈ lw_gd := mem_gd rr1353.1 rfl
def rr1354 := List.forall_mem_cons.mp rr1353.2
theorem lk1354 : (Jvm.Cond.fieldLink "YawnRouteModel" (51 : Nat) "YawnRouteModel" "had" "[I") ∈ lw_gd := mem_gd rr1354.1 rfl
def rr1355 := List.forall_mem_cons.mp rr1354.2
theorem lk1355 : (Jvm.Cond.fieldLink "YawnRouteModel" (54 : Nat) "YawnRouteModel" "other" "[I") ∈ lw_gd := mem_gd rr1355.1 rfl
def rr1356 := List.forall_mem_cons.mp rr1355.2
theorem lk1356 : (Jvm.Cond.fieldLink "YawnRouteModel" (57 : Nat) "YawnRouteModel" "many" "[J") ∈ lw_gd := mem_gd rr1356.1 rfl
def rr1357 := List.forall_mem_cons.mp rr1356.2
theorem lk1357 : (Jvm.Cond.fieldLink "YawnRouteModel" (61 : Nat) "YawnRouteModel" "often" "[I") ∈ lw_gd := mem_gd rr1357.1 rfl
def rr1358 := List.forall_mem_cons.mp rr1357.2
theorem lk1358 : (Jvm.Cond.fieldLink "YawnRouteModel" (64 : Nat) "YawnRouteModel" "likely" "[J") ∈ lw_gd := mem_gd rr1358.1 rfl
def rr1359 := List.forall_mem_cons.mp rr1358.2
theorem lk1359 : (Jvm.Cond.fieldLink "YawnRouteModel" (67 : Nat) "YawnRouteModel" "likelyThen" "[J") ∈ lw_gd := mem_gd rr1359.1 rfl
def rr1360 := List.forall_mem_cons.mp rr1359.2
theorem lk1360 : (Jvm.Cond.fieldLink "YawnRouteModel" (70 : Nat) "YawnRouteModel" "rowSort" "[I") ∈ lw_gd := mem_gd rr1360.1 rfl
def rr1361 := List.forall_mem_cons.mp rr1360.2
theorem lk1361 : (Jvm.Cond.fieldLink "YawnRouteModel" (73 : Nat) "YawnRouteModel" "rowMany" "[I") ∈ lw_gd := mem_gd rr1361.1 rfl
def rr1362 := List.forall_mem_cons.mp rr1361.2
theorem lk1362 : (Jvm.Cond.fieldLink "YawnRouteModel" (76 : Nat) "YawnRouteModel" "numbers" "[J") ∈ lw_gd := mem_gd rr1362.1 rfl
def rr1363 := List.forall_mem_cons.mp rr1362.2
def rr1364 := List.forall_mem_cons.mp rr1363.2
def rr1365 := List.forall_mem_cons.mp rr1364.2
def rr1366 := List.forall_mem_cons.mp rr1365.2
def rr1367 := List.forall_mem_cons.mp rr1366.2
def rr1368 := List.forall_mem_cons.mp rr1367.2
def rr1369 := List.forall_mem_cons.mp rr1368.2
def rr1370 := List.forall_mem_cons.mp rr1369.2
def rr1371 := List.forall_mem_cons.mp rr1370.2
def rr1372 := List.forall_mem_cons.mp rr1371.2
def rr1373 := List.forall_mem_cons.mp rr1372.2
def rr1374 := List.forall_mem_cons.mp rr1373.2
def rr1375 := List.forall_mem_cons.mp rr1374.2
def rr1376 := List.forall_mem_cons.mp rr1375.2
def rr1377 := List.forall_mem_cons.mp rr1376.2
def rr1378 := List.forall_mem_cons.mp rr1377.2
def rr1379 := List.forall_mem_cons.mp rr1378.2
def rr1380 := List.forall_mem_cons.mp rr1379.2
def rr1381 := List.forall_mem_cons.mp rr1380.2
def rr1382 := List.forall_mem_cons.mp rr1381.2
def rr1383 := List.forall_mem_cons.mp rr1382.2
def rr1384 := List.forall_mem_cons.mp rr1383.2
def rr1385 := List.forall_mem_cons.mp rr1384.2
def rr1386 := List.forall_mem_cons.mp rr1385.2
def rr1387 := List.forall_mem_cons.mp rr1386.2
def rr1388 := List.forall_mem_cons.mp rr1387.2
def rr1389 := List.forall_mem_cons.mp rr1388.2
def rr1390 := List.forall_mem_cons.mp rr1389.2
def rr1391 := List.forall_mem_cons.mp rr1390.2
def rr1392 := List.forall_mem_cons.mp rr1391.2
def rr1393 := List.forall_mem_cons.mp rr1392.2
def rr1394 := List.forall_mem_cons.mp rr1393.2
def rr1395 := List.forall_mem_cons.mp rr1394.2
def rr1396 := List.forall_mem_cons.mp rr1395.2
def rr1397 := List.forall_mem_cons.mp rr1396.2
def rr1398 := List.forall_mem_cons.mp rr1397.2
def rr1399 := List.forall_mem_cons.mp rr1398.2
def rr1400 := List.forall_mem_cons.mp rr1399.2
def rr1401 := List.forall_mem_cons.mp rr1400.2
def rr1402 := List.forall_mem_cons.mp rr1401.2
def rr1403 := List.forall_mem_cons.mp rr1402.2
def rr1404 := List.forall_mem_cons.mp rr1403.2
def rr1405 := List.forall_mem_cons.mp rr1404.2
def rr1406 := List.forall_mem_cons.mp rr1405.2
def rr1407 := List.forall_mem_cons.mp rr1406.2
def rr1408 := List.forall_mem_cons.mp rr1407.2
def rr1409 := List.forall_mem_cons.mp rr1408.2
def rr1410 := List.forall_mem_cons.mp rr1409.2
def rr1411 := List.forall_mem_cons.mp rr1410.2
def rr1412 := List.forall_mem_cons.mp rr1411.2
def rr1413 := List.forall_mem_cons.mp rr1412.2
def rr1414 := List.forall_mem_cons.mp rr1413.2
def rr1415 := List.forall_mem_cons.mp rr1414.2
def rr1416 := List.forall_mem_cons.mp rr1415.2
def rr1417 := List.forall_mem_cons.mp rr1416.2
def rr1418 := List.forall_mem_cons.mp rr1417.2
def rr1419 := List.forall_mem_cons.mp rr1418.2
def rr1420 := List.forall_mem_cons.mp rr1419.2
def rr1421 := List.forall_mem_cons.mp rr1420.2
def rr1422 := List.forall_mem_cons.mp rr1421.2
def rr1423 := List.forall_mem_cons.mp rr1422.2
def rr1424 := List.forall_mem_cons.mp rr1423.2
def rr1425 := List.forall_mem_cons.mp rr1424.2
def rr1426 := List.forall_mem_cons.mp rr1425.2
def rr1427 := List.forall_mem_cons.mp rr1426.2
def rr1428 := List.forall_mem_cons.mp rr1427.2
def rr1429 := List.forall_mem_cons.mp rr1428.2
def rr1430 := List.forall_mem_cons.mp rr1429.2
theorem lk1430 : (Jvm.Cond.methodLink "YawnRouteLaw" (17 : Nat) ({ cls := "YawnRouteModel", name := "feed", desc := "(IIIII)I" } : Jvm.MethodName)) ∈ lw_gd := mem_gd rr1430.1 rfl
def rr1431 := List.forall_mem_cons.mp rr1430.2
theorem lk1431 : (Jvm.Cond.instanceMethod ({ cls := "YawnRouteModel", name := "feed", desc := "(IIIII)I" } : Jvm.MethodName)) ∈ lw_gd := mem_gd rr1431.1 rfl
def rr1432 := List.forall_mem_cons.mp rr1431.2
theorem lk1432 : (Jvm.Cond.selects "YawnRouteModel" ({ cls := "YawnRouteModel", name := "feed", desc := "(IIIII)I" } : Jvm.MethodName) ({ cls := "YawnRouteModel", name := "feed", desc := "(IIIII)I" } : Jvm.MethodName)) ∈ lw_gd := mem_gd rr1432.1 rfl
def rr1433 := List.forall_mem_cons.mp rr1432.2
theorem lk1433 : (Jvm.Cond.code ({ cls := "YawnRouteModel", name := "feed", desc := "(IIIII)I" } : Jvm.MethodName) prog_14_method_5_code (8 : Nat) (Option.some Jvm.ClassFile.FieldType.int)) ∈ lw_gd := mem_gd rr1433.1 rfl
def rr1434 := List.forall_mem_cons.mp rr1433.2
theorem lk1434 : (Jvm.Cond.methodLink "YawnRouteLaw" (22 : Nat) ({ cls := "YawnRouteModel", name := "net", desc := "(I)I" } : Jvm.MethodName)) ∈ lw_gd := mem_gd rr1434.1 rfl
def rr1435 := List.forall_mem_cons.mp rr1434.2
theorem lk1435 : (Jvm.Cond.instanceMethod ({ cls := "YawnRouteModel", name := "net", desc := "(I)I" } : Jvm.MethodName)) ∈ lw_gd := mem_gd rr1435.1 rfl
def rr1436 := List.forall_mem_cons.mp rr1435.2
theorem lk1436 : (Jvm.Cond.selects "YawnRouteModel" ({ cls := "YawnRouteModel", name := "net", desc := "(I)I" } : Jvm.MethodName) ({ cls := "YawnRouteModel", name := "net", desc := "(I)I" } : Jvm.MethodName)) ∈ lw_gd := mem_gd rr1436.1 rfl
def rr1437 := List.forall_mem_cons.mp rr1436.2
theorem lk1437 : (Jvm.Cond.code ({ cls := "YawnRouteModel", name := "net", desc := "(I)I" } : Jvm.MethodName) prog_14_method_33_code (3 : Nat) (Option.some Jvm.ClassFile.FieldType.int)) ∈ lw_gd := mem_gd rr1437.1 rfl
def rr1438 := List.forall_mem_cons.mp rr1437.2
theorem lk1438 : (Jvm.Cond.methodLink "YawnRouteModel" (145 : Nat) ({ cls := "YawnRouteModel", name := "within", desc := "(JJJ)Z" } : Jvm.MethodName)) ∈ lw_gd := mem_gd rr1438.1 rfl
def rr1439 := List.forall_mem_cons.mp rr1438.2
theorem lk1439 : (Jvm.Cond.static ({ cls := "YawnRouteModel", name := "within", desc := "(JJJ)Z" } : Jvm.MethodName)) ∈ lw_gd := mem_gd rr1439.1 rfl
theorem tq6 : ∀ w ∈ tables_1_7, w ∈ lw_tbl := fun w h => List.mem_append_right _ (List.mem_append_right _ (List.mem_append_right _ (List.mem_append_right _ (List.mem_append_right _ (List.mem_append_right _ (List.mem_append_right _ (List.mem_append_left _ h)))))))
def rr1440 := List.forall_mem_cons.mp tq6
theorem lk1440 : (Jvm.Cond.code ({ cls := "YawnRouteModel", name := "within", desc := "(JJJ)Z" } : Jvm.MethodName) prog_14_method_2_code (6 : Nat) (Option.some Jvm.ClassFile.FieldType.boolean)) ∈ lw_gd := mem_gd rr1440.1 rfl
def rr1441 := List.forall_mem_cons.mp rr1440.2
theorem lk1441 : (Jvm.Cond.methodLink "YawnRouteModel" (138 : Nat) ({ cls := "YawnRouteModel", name := "next", desc := "()V" } : Jvm.MethodName)) ∈ lw_gd := mem_gd rr1441.1 rfl
def rr1442 := List.forall_mem_cons.mp rr1441.2
def rr1443 := List.forall_mem_cons.mp rr1442.2
theorem lk1443 : (Jvm.Cond.instanceMethod ({ cls := "YawnRouteModel", name := "next", desc := "()V" } : Jvm.MethodName)) ∈ lw_gd := mem_gd rr1443.1 rfl
def rr1444 := List.forall_mem_cons.mp rr1443.2
theorem lk1444 : (Jvm.Cond.code ({ cls := "YawnRouteModel", name := "next", desc := "()V" } : Jvm.MethodName) prog_14_method_10_code (2 : Nat) (Option.none : Option Jvm.ClassFile.FieldType)) ∈ lw_gd := mem_gd rr1444.1 rfl
def rr1445 := List.forall_mem_cons.mp rr1444.2
theorem lk1445 : (Jvm.Cond.methodLink "YawnRouteModel" (107 : Nat) ({ cls := "YawnRouteModel", name := "see", desc := "(I)I" } : Jvm.MethodName)) ∈ lw_gd := mem_gd rr1445.1 rfl
def rr1446 := List.forall_mem_cons.mp rr1445.2
def rr1447 := List.forall_mem_cons.mp rr1446.2
theorem lk1447 : (Jvm.Cond.instanceMethod ({ cls := "YawnRouteModel", name := "see", desc := "(I)I" } : Jvm.MethodName)) ∈ lw_gd := mem_gd rr1447.1 rfl
def rr1448 := List.forall_mem_cons.mp rr1447.2
theorem lk1448 : (Jvm.Cond.code ({ cls := "YawnRouteModel", name := "see", desc := "(I)I" } : Jvm.MethodName) prog_14_method_6_code (2 : Nat) (Option.some Jvm.ClassFile.FieldType.int)) ∈ lw_gd := mem_gd rr1448.1 rfl
def rr1449 := List.forall_mem_cons.mp rr1448.2
theorem lk1449 : (Jvm.Cond.methodLink "YawnRouteModel" (114 : Nat) ({ cls := "YawnRouteModel", name := "isSmall", desc := "(I)Z" } : Jvm.MethodName)) ∈ lw_gd := mem_gd rr1449.1 rfl
def rr1450 := List.forall_mem_cons.mp rr1449.2
theorem lk1450 : (Jvm.Cond.static ({ cls := "YawnRouteModel", name := "isSmall", desc := "(I)Z" } : Jvm.MethodName)) ∈ lw_gd := mem_gd rr1450.1 rfl
def rr1451 := List.forall_mem_cons.mp rr1450.2
theorem lk1451 : (Jvm.Cond.code ({ cls := "YawnRouteModel", name := "isSmall", desc := "(I)Z" } : Jvm.MethodName) prog_14_method_7_code (1 : Nat) (Option.some Jvm.ClassFile.FieldType.boolean)) ∈ lw_gd := mem_gd rr1451.1 rfl
def rr1452 := List.forall_mem_cons.mp rr1451.2
theorem lk1452 : (Jvm.Cond.methodLink "YawnRouteModel" (118 : Nat) ({ cls := "YawnRouteModel", name := "keyAt", desc := "()I" } : Jvm.MethodName)) ∈ lw_gd := mem_gd rr1452.1 rfl
def rr1453 := List.forall_mem_cons.mp rr1452.2
def rr1454 := List.forall_mem_cons.mp rr1453.2
theorem lk1454 : (Jvm.Cond.instanceMethod ({ cls := "YawnRouteModel", name := "keyAt", desc := "()I" } : Jvm.MethodName)) ∈ lw_gd := mem_gd rr1454.1 rfl
def rr1455 := List.forall_mem_cons.mp rr1454.2
theorem lk1455 : (Jvm.Cond.code ({ cls := "YawnRouteModel", name := "keyAt", desc := "()I" } : Jvm.MethodName) prog_14_method_9_code (4 : Nat) (Option.some Jvm.ClassFile.FieldType.int)) ∈ lw_gd := mem_gd rr1455.1 rfl
def rr1456 := List.forall_mem_cons.mp rr1455.2
def rr1457 := List.forall_mem_cons.mp rr1456.2
theorem lk1457 : (Jvm.Cond.methodLink "YawnRouteModel" (91 : Nat) ({ cls := "java/lang/String", name := "length", desc := "()I" } : Jvm.MethodName)) ∈ lw_gd := mem_gd rr1457.1 rfl
def rr1458 := List.forall_mem_cons.mp rr1457.2
theorem lk1458 : (Jvm.Cond.methodLink "YawnRouteModel" (97 : Nat) ({ cls := "java/lang/String", name := "charAt", desc := "(I)C" } : Jvm.MethodName)) ∈ lw_gd := mem_gd rr1458.1 rfl
def rr1459 := List.forall_mem_cons.mp rr1458.2
theorem lk1459 : (Jvm.Cond.methodLink "YawnRouteModel" (121 : Nat) ({ cls := "YawnRouteModel", name := "isDigit", desc := "(I)Z" } : Jvm.MethodName)) ∈ lw_gd := mem_gd rr1459.1 rfl
def rr1460 := List.forall_mem_cons.mp rr1459.2
theorem lk1460 : (Jvm.Cond.static ({ cls := "YawnRouteModel", name := "isDigit", desc := "(I)Z" } : Jvm.MethodName)) ∈ lw_gd := mem_gd rr1460.1 rfl
def rr1461 := List.forall_mem_cons.mp rr1460.2
theorem lk1461 : (Jvm.Cond.code ({ cls := "YawnRouteModel", name := "isDigit", desc := "(I)Z" } : Jvm.MethodName) prog_14_method_8_code (1 : Nat) (Option.some Jvm.ClassFile.FieldType.boolean)) ∈ lw_gd := mem_gd rr1461.1 rfl
def rr1462 := List.forall_mem_cons.mp rr1461.2
def rr1463 := List.forall_mem_cons.mp rr1462.2
theorem lk1463 : (Jvm.Cond.methodLink "YawnRouteModel" (161 : Nat) ({ cls := "YawnRouteModel", name := "eats", desc := "(I)Z" } : Jvm.MethodName)) ∈ lw_gd := mem_gd rr1463.1 rfl
def rr1464 := List.forall_mem_cons.mp rr1463.2
def rr1465 := List.forall_mem_cons.mp rr1464.2
theorem lk1465 : (Jvm.Cond.instanceMethod ({ cls := "YawnRouteModel", name := "eats", desc := "(I)Z" } : Jvm.MethodName)) ∈ lw_gd := mem_gd rr1465.1 rfl
def rr1466 := List.forall_mem_cons.mp rr1465.2
theorem lk1466 : (Jvm.Cond.code ({ cls := "YawnRouteModel", name := "eats", desc := "(I)Z" } : Jvm.MethodName) prog_14_method_13_code (2 : Nat) (Option.some Jvm.ClassFile.FieldType.boolean)) ∈ lw_gd := mem_gd rr1466.1 rfl
def rr1467 := List.forall_mem_cons.mp rr1466.2
theorem lk1467 : (Jvm.Cond.methodLink "YawnRouteModel" (135 : Nat) ({ cls := "YawnRouteModel", name := "is", desc := "(I)Z" } : Jvm.MethodName)) ∈ lw_gd := mem_gd rr1467.1 rfl
def rr1468 := List.forall_mem_cons.mp rr1467.2
def rr1469 := List.forall_mem_cons.mp rr1468.2
theorem lk1469 : (Jvm.Cond.instanceMethod ({ cls := "YawnRouteModel", name := "is", desc := "(I)Z" } : Jvm.MethodName)) ∈ lw_gd := mem_gd rr1469.1 rfl
def rr1470 := List.forall_mem_cons.mp rr1469.2
theorem lk1470 : (Jvm.Cond.code ({ cls := "YawnRouteModel", name := "is", desc := "(I)Z" } : Jvm.MethodName) prog_14_method_12_code (2 : Nat) (Option.some Jvm.ClassFile.FieldType.boolean)) ∈ lw_gd := mem_gd rr1470.1 rfl
def rr1471 := List.forall_mem_cons.mp rr1470.2
theorem lk1471 : (Jvm.Cond.methodLink "YawnRouteModel" (141 : Nat) ({ cls := "YawnRouteModel", name := "fails", desc := "(I)V" } : Jvm.MethodName)) ∈ lw_gd := mem_gd rr1471.1 rfl
def rr1472 := List.forall_mem_cons.mp rr1471.2
def rr1473 := List.forall_mem_cons.mp rr1472.2
theorem lk1473 : (Jvm.Cond.instanceMethod ({ cls := "YawnRouteModel", name := "fails", desc := "(I)V" } : Jvm.MethodName)) ∈ lw_gd := mem_gd rr1473.1 rfl
def rr1474 := List.forall_mem_cons.mp rr1473.2
theorem lk1474 : (Jvm.Cond.code ({ cls := "YawnRouteModel", name := "fails", desc := "(I)V" } : Jvm.MethodName) prog_14_method_11_code (2 : Nat) (Option.none : Option Jvm.ClassFile.FieldType)) ∈ lw_gd := mem_gd rr1474.1 rfl
def rr1475 := List.forall_mem_cons.mp rr1474.2
theorem lk1475 : (Jvm.Cond.methodLink "YawnRouteModel" (201 : Nat) ({ cls := "YawnRouteModel", name := "ends", desc := "()V" } : Jvm.MethodName)) ∈ lw_gd := mem_gd rr1475.1 rfl
def rr1476 := List.forall_mem_cons.mp rr1475.2
def rr1477 := List.forall_mem_cons.mp rr1476.2
theorem lk1477 : (Jvm.Cond.instanceMethod ({ cls := "YawnRouteModel", name := "ends", desc := "()V" } : Jvm.MethodName)) ∈ lw_gd := mem_gd rr1477.1 rfl
def rr1478 := List.forall_mem_cons.mp rr1477.2
theorem lk1478 : (Jvm.Cond.code ({ cls := "YawnRouteModel", name := "ends", desc := "()V" } : Jvm.MethodName) prog_14_method_32_code (1 : Nat) (Option.none : Option Jvm.ClassFile.FieldType)) ∈ lw_gd := mem_gd rr1478.1 rfl
def rr1479 := List.forall_mem_cons.mp rr1478.2
theorem lk1479 : (Jvm.Cond.methodLink "YawnRouteModel" (204 : Nat) ({ cls := "YawnRouteModel", name := "readLine", desc := "()V" } : Jvm.MethodName)) ∈ lw_gd := mem_gd rr1479.1 rfl
def rr1480 := List.forall_mem_cons.mp rr1479.2
def rr1481 := List.forall_mem_cons.mp rr1480.2
theorem lk1481 : (Jvm.Cond.instanceMethod ({ cls := "YawnRouteModel", name := "readLine", desc := "()V" } : Jvm.MethodName)) ∈ lw_gd := mem_gd rr1481.1 rfl
def rr1482 := List.forall_mem_cons.mp rr1481.2
theorem lk1482 : (Jvm.Cond.code ({ cls := "YawnRouteModel", name := "readLine", desc := "()V" } : Jvm.MethodName) prog_14_method_31_code (1 : Nat) (Option.none : Option Jvm.ClassFile.FieldType)) ∈ lw_gd := mem_gd rr1482.1 rfl
def rr1483 := List.forall_mem_cons.mp rr1482.2
theorem lk1483 : (Jvm.Cond.methodLink "YawnRouteModel" (189 : Nat) ({ cls := "YawnRouteModel", name := "readStation", desc := "()V" } : Jvm.MethodName)) ∈ lw_gd := mem_gd rr1483.1 rfl
def rr1484 := List.forall_mem_cons.mp rr1483.2
def rr1485 := List.forall_mem_cons.mp rr1484.2
theorem lk1485 : (Jvm.Cond.instanceMethod ({ cls := "YawnRouteModel", name := "readStation", desc := "()V" } : Jvm.MethodName)) ∈ lw_gd := mem_gd rr1485.1 rfl
def rr1486 := List.forall_mem_cons.mp rr1485.2
theorem lk1486 : (Jvm.Cond.code ({ cls := "YawnRouteModel", name := "readStation", desc := "()V" } : Jvm.MethodName) prog_14_method_27_code (2 : Nat) (Option.none : Option Jvm.ClassFile.FieldType)) ∈ lw_gd := mem_gd rr1486.1 rfl
def rr1487 := List.forall_mem_cons.mp rr1486.2
theorem lk1487 : (Jvm.Cond.methodLink "YawnRouteModel" (186 : Nat) ({ cls := "YawnRouteModel", name := "readFlag", desc := "(I)Z" } : Jvm.MethodName)) ∈ lw_gd := mem_gd rr1487.1 rfl
def rr1488 := List.forall_mem_cons.mp rr1487.2
def rr1489 := List.forall_mem_cons.mp rr1488.2
theorem lk1489 : (Jvm.Cond.instanceMethod ({ cls := "YawnRouteModel", name := "readFlag", desc := "(I)Z" } : Jvm.MethodName)) ∈ lw_gd := mem_gd rr1489.1 rfl
def rr1490 := List.forall_mem_cons.mp rr1489.2
theorem lk1490 : (Jvm.Cond.code ({ cls := "YawnRouteModel", name := "readFlag", desc := "(I)Z" } : Jvm.MethodName) prog_14_method_26_code (2 : Nat) (Option.some Jvm.ClassFile.FieldType.boolean)) ∈ lw_gd := mem_gd rr1490.1 rfl
def rr1491 := List.forall_mem_cons.mp rr1490.2
theorem lk1491 : (Jvm.Cond.methodLink "YawnRouteModel" (182 : Nat) ({ cls := "YawnRouteModel", name := "takes", desc := "(II)I" } : Jvm.MethodName)) ∈ lw_gd := mem_gd rr1491.1 rfl
def rr1492 := List.forall_mem_cons.mp rr1491.2
def rr1493 := List.forall_mem_cons.mp rr1492.2
theorem lk1493 : (Jvm.Cond.instanceMethod ({ cls := "YawnRouteModel", name := "takes", desc := "(II)I" } : Jvm.MethodName)) ∈ lw_gd := mem_gd rr1493.1 rfl
def rr1494 := List.forall_mem_cons.mp rr1493.2
theorem lk1494 : (Jvm.Cond.code ({ cls := "YawnRouteModel", name := "takes", desc := "(II)I" } : Jvm.MethodName) prog_14_method_14_code (4 : Nat) (Option.some Jvm.ClassFile.FieldType.int)) ∈ lw_gd := mem_gd rr1494.1 rfl
def rr1495 := List.forall_mem_cons.mp rr1494.2
theorem lk1495 : (Jvm.Cond.methodLink "YawnRouteModel" (192 : Nat) ({ cls := "YawnRouteModel", name := "readWay", desc := "()V" } : Jvm.MethodName)) ∈ lw_gd := mem_gd rr1495.1 rfl
def rr1496 := List.forall_mem_cons.mp rr1495.2
def rr1497 := List.forall_mem_cons.mp rr1496.2
theorem lk1497 : (Jvm.Cond.instanceMethod ({ cls := "YawnRouteModel", name := "readWay", desc := "()V" } : Jvm.MethodName)) ∈ lw_gd := mem_gd rr1497.1 rfl
def rr1498 := List.forall_mem_cons.mp rr1497.2
theorem lk1498 : (Jvm.Cond.code ({ cls := "YawnRouteModel", name := "readWay", desc := "()V" } : Jvm.MethodName) prog_14_method_28_code (6 : Nat) (Option.none : Option Jvm.ClassFile.FieldType)) ∈ lw_gd := mem_gd rr1498.1 rfl
def rr1499 := List.forall_mem_cons.mp rr1498.2
theorem lk1499 : (Jvm.Cond.methodLink "YawnRouteModel" (195 : Nat) ({ cls := "YawnRouteModel", name := "readAt", desc := "()V" } : Jvm.MethodName)) ∈ lw_gd := mem_gd rr1499.1 rfl
def rr1500 := List.forall_mem_cons.mp rr1499.2
def rr1501 := List.forall_mem_cons.mp rr1500.2
theorem lk1501 : (Jvm.Cond.instanceMethod ({ cls := "YawnRouteModel", name := "readAt", desc := "()V" } : Jvm.MethodName)) ∈ lw_gd := mem_gd rr1501.1 rfl
def rr1502 := List.forall_mem_cons.mp rr1501.2
theorem lk1502 : (Jvm.Cond.code ({ cls := "YawnRouteModel", name := "readAt", desc := "()V" } : Jvm.MethodName) prog_14_method_29_code (3 : Nat) (Option.none : Option Jvm.ClassFile.FieldType)) ∈ lw_gd := mem_gd rr1502.1 rfl
def rr1503 := List.forall_mem_cons.mp rr1502.2
theorem lk1503 : (Jvm.Cond.methodLink "YawnRouteModel" (198 : Nat) ({ cls := "YawnRouteModel", name := "readLaw", desc := "(I)V" } : Jvm.MethodName)) ∈ lw_gd := mem_gd rr1503.1 rfl
def rr1504 := List.forall_mem_cons.mp rr1503.2
def rr1505 := List.forall_mem_cons.mp rr1504.2
theorem lk1505 : (Jvm.Cond.instanceMethod ({ cls := "YawnRouteModel", name := "readLaw", desc := "(I)V" } : Jvm.MethodName)) ∈ lw_gd := mem_gd rr1505.1 rfl
def rr1506 := List.forall_mem_cons.mp rr1505.2
theorem lk1506 : (Jvm.Cond.code ({ cls := "YawnRouteModel", name := "readLaw", desc := "(I)V" } : Jvm.MethodName) prog_14_method_30_code (3 : Nat) (Option.none : Option Jvm.ClassFile.FieldType)) ∈ lw_gd := mem_gd rr1506.1 rfl
def rr1507 := List.forall_mem_cons.mp rr1506.2
theorem lk1507 : (Jvm.Cond.methodLink "YawnRouteModel" (158 : Nat) ({ cls := "YawnRouteModel", name := "readSum", desc := "(I)V" } : Jvm.MethodName)) ∈ lw_gd := mem_gd rr1507.1 rfl
def rr1508 := List.forall_mem_cons.mp rr1507.2
def rr1509 := List.forall_mem_cons.mp rr1508.2
theorem lk1509 : (Jvm.Cond.instanceMethod ({ cls := "YawnRouteModel", name := "readSum", desc := "(I)V" } : Jvm.MethodName)) ∈ lw_gd := mem_gd rr1509.1 rfl
def rr1510 := List.forall_mem_cons.mp rr1509.2
theorem lk1510 : (Jvm.Cond.code ({ cls := "YawnRouteModel", name := "readSum", desc := "(I)V" } : Jvm.MethodName) prog_14_method_22_code (3 : Nat) (Option.none : Option Jvm.ClassFile.FieldType)) ∈ lw_gd := mem_gd rr1510.1 rfl
def rr1511 := List.forall_mem_cons.mp rr1510.2
theorem lk1511 : (Jvm.Cond.methodLink "YawnRouteModel" (173 : Nat) ({ cls := "YawnRouteModel", name := "readTerm", desc := "(I)V" } : Jvm.MethodName)) ∈ lw_gd := mem_gd rr1511.1 rfl
def rr1512 := List.forall_mem_cons.mp rr1511.2
def rr1513 := List.forall_mem_cons.mp rr1512.2
theorem lk1513 : (Jvm.Cond.instanceMethod ({ cls := "YawnRouteModel", name := "readTerm", desc := "(I)V" } : Jvm.MethodName)) ∈ lw_gd := mem_gd rr1513.1 rfl
def rr1514 := List.forall_mem_cons.mp rr1513.2
theorem lk1514 : (Jvm.Cond.code ({ cls := "YawnRouteModel", name := "readTerm", desc := "(I)V" } : Jvm.MethodName) prog_14_method_21_code (2 : Nat) (Option.none : Option Jvm.ClassFile.FieldType)) ∈ lw_gd := mem_gd rr1514.1 rfl
def rr1515 := List.forall_mem_cons.mp rr1514.2
theorem lk1515 : (Jvm.Cond.methodLink "YawnRouteModel" (170 : Nat) ({ cls := "YawnRouteModel", name := "readAtom", desc := "(I)V" } : Jvm.MethodName)) ∈ lw_gd := mem_gd rr1515.1 rfl
def rr1516 := List.forall_mem_cons.mp rr1515.2
def rr1517 := List.forall_mem_cons.mp rr1516.2
theorem lk1517 : (Jvm.Cond.instanceMethod ({ cls := "YawnRouteModel", name := "readAtom", desc := "(I)V" } : Jvm.MethodName)) ∈ lw_gd := mem_gd rr1517.1 rfl
def rr1518 := List.forall_mem_cons.mp rr1517.2
theorem lk1518 : (Jvm.Cond.code ({ cls := "YawnRouteModel", name := "readAtom", desc := "(I)V" } : Jvm.MethodName) prog_14_method_19_code (2 : Nat) (Option.none : Option Jvm.ClassFile.FieldType)) ∈ lw_gd := mem_gd rr1518.1 rfl
def rr1519 := List.forall_mem_cons.mp rr1518.2
theorem lk1519 : (Jvm.Cond.methodLink "YawnRouteModel" (149 : Nat) ({ cls := "YawnRouteModel", name := "codes", desc := "(I)V" } : Jvm.MethodName)) ∈ lw_gd := mem_gd rr1519.1 rfl
def rr1520 := List.forall_mem_cons.mp rr1519.2
def rr1521 := List.forall_mem_cons.mp rr1520.2
theorem lk1521 : (Jvm.Cond.instanceMethod ({ cls := "YawnRouteModel", name := "codes", desc := "(I)V" } : Jvm.MethodName)) ∈ lw_gd := mem_gd rr1521.1 rfl
def rr1522 := List.forall_mem_cons.mp rr1521.2
theorem lk1522 : (Jvm.Cond.code ({ cls := "YawnRouteModel", name := "codes", desc := "(I)V" } : Jvm.MethodName) prog_14_method_17_code (2 : Nat) (Option.none : Option Jvm.ClassFile.FieldType)) ∈ lw_gd := mem_gd rr1522.1 rfl
def rr1523 := List.forall_mem_cons.mp rr1522.2
theorem lk1523 : (Jvm.Cond.methodLink "YawnRouteModel" (152 : Nat) ({ cls := "YawnRouteModel", name := "wordOf", desc := "(I)I" } : Jvm.MethodName)) ∈ lw_gd := mem_gd rr1523.1 rfl
def rr1524 := List.forall_mem_cons.mp rr1523.2
def rr1525 := List.forall_mem_cons.mp rr1524.2
theorem lk1525 : (Jvm.Cond.instanceMethod ({ cls := "YawnRouteModel", name := "wordOf", desc := "(I)I" } : Jvm.MethodName)) ∈ lw_gd := mem_gd rr1525.1 rfl
def rr1526 := List.forall_mem_cons.mp rr1525.2
theorem lk1526 : (Jvm.Cond.code ({ cls := "YawnRouteModel", name := "wordOf", desc := "(I)I" } : Jvm.MethodName) prog_14_method_16_code (2 : Nat) (Option.some Jvm.ClassFile.FieldType.int)) ∈ lw_gd := mem_gd rr1526.1 rfl
def rr1527 := List.forall_mem_cons.mp rr1526.2
theorem lk1527 : (Jvm.Cond.methodLink "YawnRouteModel" (155 : Nat) ({ cls := "YawnRouteModel", name := "goesIn", desc := "(I)Z" } : Jvm.MethodName)) ∈ lw_gd := mem_gd rr1527.1 rfl
def rr1528 := List.forall_mem_cons.mp rr1527.2
def rr1529 := List.forall_mem_cons.mp rr1528.2
theorem lk1529 : (Jvm.Cond.instanceMethod ({ cls := "YawnRouteModel", name := "goesIn", desc := "(I)Z" } : Jvm.MethodName)) ∈ lw_gd := mem_gd rr1529.1 rfl
def rr1530 := List.forall_mem_cons.mp rr1529.2
theorem lk1530 : (Jvm.Cond.code ({ cls := "YawnRouteModel", name := "goesIn", desc := "(I)Z" } : Jvm.MethodName) prog_14_method_18_code (2 : Nat) (Option.some Jvm.ClassFile.FieldType.boolean)) ∈ lw_gd := mem_gd rr1530.1 rfl
def rr1531 := List.forall_mem_cons.mp rr1530.2
theorem lk1531 : (Jvm.Cond.methodLink "YawnRouteModel" (164 : Nat) ({ cls := "YawnRouteModel", name := "readIf", desc := "(I)V" } : Jvm.MethodName)) ∈ lw_gd := mem_gd rr1531.1 rfl
def rr1532 := List.forall_mem_cons.mp rr1531.2
def rr1533 := List.forall_mem_cons.mp rr1532.2
theorem lk1533 : (Jvm.Cond.instanceMethod ({ cls := "YawnRouteModel", name := "readIf", desc := "(I)V" } : Jvm.MethodName)) ∈ lw_gd := mem_gd rr1533.1 rfl
def rr1534 := List.forall_mem_cons.mp rr1533.2
theorem lk1534 : (Jvm.Cond.code ({ cls := "YawnRouteModel", name := "readIf", desc := "(I)V" } : Jvm.MethodName) prog_14_method_20_code (2 : Nat) (Option.none : Option Jvm.ClassFile.FieldType)) ∈ lw_gd := mem_gd rr1534.1 rfl
def rr1535 := List.forall_mem_cons.mp rr1534.2
theorem lk1535 : (Jvm.Cond.methodLink "YawnRouteModel" (167 : Nat) ({ cls := "YawnRouteModel", name := "readTruth", desc := "(I)V" } : Jvm.MethodName)) ∈ lw_gd := mem_gd rr1535.1 rfl
def rr1536 := List.forall_mem_cons.mp rr1535.2
def rr1537 := List.forall_mem_cons.mp rr1536.2
theorem lk1537 : (Jvm.Cond.instanceMethod ({ cls := "YawnRouteModel", name := "readTruth", desc := "(I)V" } : Jvm.MethodName)) ∈ lw_gd := mem_gd rr1537.1 rfl
def rr1538 := List.forall_mem_cons.mp rr1537.2
theorem lk1538 : (Jvm.Cond.code ({ cls := "YawnRouteModel", name := "readTruth", desc := "(I)V" } : Jvm.MethodName) prog_14_method_25_code (2 : Nat) (Option.none : Option Jvm.ClassFile.FieldType)) ∈ lw_gd := mem_gd rr1538.1 rfl
def rr1539 := List.forall_mem_cons.mp rr1538.2
theorem lk1539 : (Jvm.Cond.methodLink "YawnRouteModel" (179 : Nat) ({ cls := "YawnRouteModel", name := "readBoth", desc := "(I)V" } : Jvm.MethodName)) ∈ lw_gd := mem_gd rr1539.1 rfl
def rr1540 := List.forall_mem_cons.mp rr1539.2
def rr1541 := List.forall_mem_cons.mp rr1540.2
theorem lk1541 : (Jvm.Cond.instanceMethod ({ cls := "YawnRouteModel", name := "readBoth", desc := "(I)V" } : Jvm.MethodName)) ∈ lw_gd := mem_gd rr1541.1 rfl
def rr1542 := List.forall_mem_cons.mp rr1541.2
theorem lk1542 : (Jvm.Cond.code ({ cls := "YawnRouteModel", name := "readBoth", desc := "(I)V" } : Jvm.MethodName) prog_14_method_24_code (2 : Nat) (Option.none : Option Jvm.ClassFile.FieldType)) ∈ lw_gd := mem_gd rr1542.1 rfl
def rr1543 := List.forall_mem_cons.mp rr1542.2
theorem lk1543 : (Jvm.Cond.methodLink "YawnRouteModel" (176 : Nat) ({ cls := "YawnRouteModel", name := "readUnit", desc := "(I)V" } : Jvm.MethodName)) ∈ lw_gd := mem_gd rr1543.1 rfl
def rr1544 := List.forall_mem_cons.mp rr1543.2
def rr1545 := List.forall_mem_cons.mp rr1544.2
theorem lk1545 : (Jvm.Cond.instanceMethod ({ cls := "YawnRouteModel", name := "readUnit", desc := "(I)V" } : Jvm.MethodName)) ∈ lw_gd := mem_gd rr1545.1 rfl
def rr1546 := List.forall_mem_cons.mp rr1545.2
theorem lk1546 : (Jvm.Cond.code ({ cls := "YawnRouteModel", name := "readUnit", desc := "(I)V" } : Jvm.MethodName) prog_14_method_23_code (3 : Nat) (Option.none : Option Jvm.ClassFile.FieldType)) ∈ lw_gd := mem_gd rr1546.1 rfl
def rr1547 := List.forall_mem_cons.mp rr1546.2
theorem lk1547 : (Jvm.Cond.methodLink "YawnRouteLaw" (26 : Nat) ({ cls := "YawnRouteModel", name := "fault", desc := "(I)I" } : Jvm.MethodName)) ∈ lw_gd := mem_gd rr1547.1 rfl
def rr1548 := List.forall_mem_cons.mp rr1547.2
theorem lk1548 : (Jvm.Cond.instanceMethod ({ cls := "YawnRouteModel", name := "fault", desc := "(I)I" } : Jvm.MethodName)) ∈ lw_gd := mem_gd rr1548.1 rfl
def rr1549 := List.forall_mem_cons.mp rr1548.2
theorem lk1549 : (Jvm.Cond.selects "YawnRouteModel" ({ cls := "YawnRouteModel", name := "fault", desc := "(I)I" } : Jvm.MethodName) ({ cls := "YawnRouteModel", name := "fault", desc := "(I)I" } : Jvm.MethodName)) ∈ lw_gd := mem_gd rr1549.1 rfl
def rr1550 := List.forall_mem_cons.mp rr1549.2
theorem lk1550 : (Jvm.Cond.code ({ cls := "YawnRouteModel", name := "fault", desc := "(I)I" } : Jvm.MethodName) prog_14_method_34_code (2 : Nat) (Option.some Jvm.ClassFile.FieldType.int)) ∈ lw_gd := mem_gd rr1550.1 rfl
def rr1551 := List.forall_mem_cons.mp rr1550.2
theorem lk1551 : (Jvm.Cond.methodLink "YawnRouteLaw" (31 : Nat) ({ cls := "YawnRouteModel", name := "station", desc := "(II)I" } : Jvm.MethodName)) ∈ lw_gd := mem_gd rr1551.1 rfl
def rr1552 := List.forall_mem_cons.mp rr1551.2
theorem lk1552 : (Jvm.Cond.instanceMethod ({ cls := "YawnRouteModel", name := "station", desc := "(II)I" } : Jvm.MethodName)) ∈ lw_gd := mem_gd rr1552.1 rfl
def rr1553 := List.forall_mem_cons.mp rr1552.2
theorem lk1553 : (Jvm.Cond.selects "YawnRouteModel" ({ cls := "YawnRouteModel", name := "station", desc := "(II)I" } : Jvm.MethodName) ({ cls := "YawnRouteModel", name := "station", desc := "(II)I" } : Jvm.MethodName)) ∈ lw_gd := mem_gd rr1553.1 rfl
def rr1554 := List.forall_mem_cons.mp rr1553.2
theorem lk1554 : (Jvm.Cond.code ({ cls := "YawnRouteModel", name := "station", desc := "(II)I" } : Jvm.MethodName) prog_14_method_43_code (5 : Nat) (Option.some Jvm.ClassFile.FieldType.int)) ∈ lw_gd := mem_gd rr1554.1 rfl
def rr1555 := List.forall_mem_cons.mp rr1554.2
theorem lk1555 : (Jvm.Cond.methodLink "YawnRouteModel" (231 : Nat) ({ cls := "YawnRouteModel", name := "isStation", desc := "(J)Z" } : Jvm.MethodName)) ∈ lw_gd := mem_gd rr1555.1 rfl
def rr1556 := List.forall_mem_cons.mp rr1555.2
def rr1557 := List.forall_mem_cons.mp rr1556.2
theorem lk1557 : (Jvm.Cond.instanceMethod ({ cls := "YawnRouteModel", name := "isStation", desc := "(J)Z" } : Jvm.MethodName)) ∈ lw_gd := mem_gd rr1557.1 rfl
def rr1558 := List.forall_mem_cons.mp rr1557.2
theorem lk1558 : (Jvm.Cond.code ({ cls := "YawnRouteModel", name := "isStation", desc := "(J)Z" } : Jvm.MethodName) prog_14_method_35_code (3 : Nat) (Option.some Jvm.ClassFile.FieldType.boolean)) ∈ lw_gd := mem_gd rr1558.1 rfl
def rr1559 := List.forall_mem_cons.mp rr1558.2
theorem lk1559 : (Jvm.Cond.methodLink "YawnRouteModel" (216 : Nat) ({ cls := "YawnRouteModel", name := "hoursOf", desc := "(II)I" } : Jvm.MethodName)) ∈ lw_gd := mem_gd rr1559.1 rfl
def rr1560 := List.forall_mem_cons.mp rr1559.2
def rr1561 := List.forall_mem_cons.mp rr1560.2
theorem lk1561 : (Jvm.Cond.instanceMethod ({ cls := "YawnRouteModel", name := "hoursOf", desc := "(II)I" } : Jvm.MethodName)) ∈ lw_gd := mem_gd rr1561.1 rfl
def rr1562 := List.forall_mem_cons.mp rr1561.2
theorem lk1562 : (Jvm.Cond.code ({ cls := "YawnRouteModel", name := "hoursOf", desc := "(II)I" } : Jvm.MethodName) prog_14_method_38_code (3 : Nat) (Option.some Jvm.ClassFile.FieldType.int)) ∈ lw_gd := mem_gd rr1562.1 rfl
def rr1563 := List.forall_mem_cons.mp rr1562.2
theorem lk1563 : (Jvm.Cond.methodLink "YawnRouteLaw" (36 : Nat) ({ cls := "YawnRouteModel", name := "way", desc := "(III)I" } : Jvm.MethodName)) ∈ lw_gd := mem_gd rr1563.1 rfl
def rr1564 := List.forall_mem_cons.mp rr1563.2
theorem lk1564 : (Jvm.Cond.instanceMethod ({ cls := "YawnRouteModel", name := "way", desc := "(III)I" } : Jvm.MethodName)) ∈ lw_gd := mem_gd rr1564.1 rfl
def rr1565 := List.forall_mem_cons.mp rr1564.2
theorem lk1565 : (Jvm.Cond.selects "YawnRouteModel" ({ cls := "YawnRouteModel", name := "way", desc := "(III)I" } : Jvm.MethodName) ({ cls := "YawnRouteModel", name := "way", desc := "(III)I" } : Jvm.MethodName)) ∈ lw_gd := mem_gd rr1565.1 rfl
def rr1566 := List.forall_mem_cons.mp rr1565.2
theorem lk1566 : (Jvm.Cond.code ({ cls := "YawnRouteModel", name := "way", desc := "(III)I" } : Jvm.MethodName) prog_14_method_44_code (4 : Nat) (Option.some Jvm.ClassFile.FieldType.int)) ∈ lw_gd := mem_gd rr1566.1 rfl
def rr1567 := List.forall_mem_cons.mp rr1566.2
theorem lk1567 : (Jvm.Cond.methodLink "YawnRouteLaw" (40 : Nat) ({ cls := "YawnRouteModel", name := "brings", desc := "(I)I" } : Jvm.MethodName)) ∈ lw_gd := mem_gd rr1567.1 rfl
def rr1568 := List.forall_mem_cons.mp rr1567.2
theorem lk1568 : (Jvm.Cond.instanceMethod ({ cls := "YawnRouteModel", name := "brings", desc := "(I)I" } : Jvm.MethodName)) ∈ lw_gd := mem_gd rr1568.1 rfl
def rr1569 := List.forall_mem_cons.mp rr1568.2
theorem lk1569 : (Jvm.Cond.selects "YawnRouteModel" ({ cls := "YawnRouteModel", name := "brings", desc := "(I)I" } : Jvm.MethodName) ({ cls := "YawnRouteModel", name := "brings", desc := "(I)I" } : Jvm.MethodName)) ∈ lw_gd := mem_gd rr1569.1 rfl
def rr1570 := List.forall_mem_cons.mp rr1569.2
theorem lk1570 : (Jvm.Cond.code ({ cls := "YawnRouteModel", name := "brings", desc := "(I)I" } : Jvm.MethodName) prog_14_method_46_code (2 : Nat) (Option.some Jvm.ClassFile.FieldType.int)) ∈ lw_gd := mem_gd rr1570.1 rfl
def rr1571 := List.forall_mem_cons.mp rr1570.2
theorem lk1571 : (Jvm.Cond.methodLink "YawnRouteModel" (238 : Nat) ({ cls := "YawnRouteModel", name := "whyPass", desc := "(J)I" } : Jvm.MethodName)) ∈ lw_gd := mem_gd rr1571.1 rfl
def rr1572 := List.forall_mem_cons.mp rr1571.2
def rr1573 := List.forall_mem_cons.mp rr1572.2
theorem lk1573 : (Jvm.Cond.instanceMethod ({ cls := "YawnRouteModel", name := "whyPass", desc := "(J)I" } : Jvm.MethodName)) ∈ lw_gd := mem_gd rr1573.1 rfl
def rr1574 := List.forall_mem_cons.mp rr1573.2
theorem lk1574 : (Jvm.Cond.code ({ cls := "YawnRouteModel", name := "whyPass", desc := "(J)I" } : Jvm.MethodName) prog_14_method_45_code (3 : Nat) (Option.some Jvm.ClassFile.FieldType.int)) ∈ lw_gd := mem_gd rr1574.1 rfl
def rr1575 := List.forall_mem_cons.mp rr1574.2
theorem lk1575 : (Jvm.Cond.methodLink "YawnRouteModel" (235 : Nat) ({ cls := "YawnRouteModel", name := "whyBy", desc := "(IIII)I" } : Jvm.MethodName)) ∈ lw_gd := mem_gd rr1575.1 rfl
def rr1576 := List.forall_mem_cons.mp rr1575.2
def rr1577 := List.forall_mem_cons.mp rr1576.2
theorem lk1577 : (Jvm.Cond.instanceMethod ({ cls := "YawnRouteModel", name := "whyBy", desc := "(IIII)I" } : Jvm.MethodName)) ∈ lw_gd := mem_gd rr1577.1 rfl
def rr1578 := List.forall_mem_cons.mp rr1577.2
theorem lk1578 : (Jvm.Cond.code ({ cls := "YawnRouteModel", name := "whyBy", desc := "(IIII)I" } : Jvm.MethodName) prog_14_method_41_code (5 : Nat) (Option.some Jvm.ClassFile.FieldType.int)) ∈ lw_gd := mem_gd rr1578.1 rfl
def rr1579 := List.forall_mem_cons.mp rr1578.2
theorem lk1579 : (Jvm.Cond.methodLink "YawnRouteModel" (223 : Nat) ({ cls := "YawnRouteModel", name := "isIn", desc := "(JI)Z" } : Jvm.MethodName)) ∈ lw_gd := mem_gd rr1579.1 rfl
def rr1580 := List.forall_mem_cons.mp rr1579.2
theorem lk1580 : (Jvm.Cond.static ({ cls := "YawnRouteModel", name := "isIn", desc := "(JI)Z" } : Jvm.MethodName)) ∈ lw_gd := mem_gd rr1580.1 rfl
def rr1581 := List.forall_mem_cons.mp rr1580.2
theorem lk1581 : (Jvm.Cond.code ({ cls := "YawnRouteModel", name := "isIn", desc := "(JI)Z" } : Jvm.MethodName) prog_14_method_15_code (3 : Nat) (Option.some Jvm.ClassFile.FieldType.boolean)) ∈ lw_gd := mem_gd rr1581.1 rfl
def rr1582 := List.forall_mem_cons.mp rr1581.2
theorem lk1582 : (Jvm.Cond.methodLink "YawnRouteModel" (227 : Nat) ({ cls := "YawnRouteModel", name := "reckons", desc := "(IIII)I" } : Jvm.MethodName)) ∈ lw_gd := mem_gd rr1582.1 rfl
def rr1583 := List.forall_mem_cons.mp rr1582.2
def rr1584 := List.forall_mem_cons.mp rr1583.2
theorem lk1584 : (Jvm.Cond.instanceMethod ({ cls := "YawnRouteModel", name := "reckons", desc := "(IIII)I" } : Jvm.MethodName)) ∈ lw_gd := mem_gd rr1584.1 rfl
def rr1585 := List.forall_mem_cons.mp rr1584.2
theorem lk1585 : (Jvm.Cond.code ({ cls := "YawnRouteModel", name := "reckons", desc := "(IIII)I" } : Jvm.MethodName) prog_14_method_40_code (8 : Nat) (Option.some Jvm.ClassFile.FieldType.int)) ∈ lw_gd := mem_gd rr1585.1 rfl
def rr1586 := List.forall_mem_cons.mp rr1585.2
theorem lk1586 : (Jvm.Cond.methodLink "YawnRouteModel" (219 : Nat) ({ cls := "YawnRouteModel", name := "between", desc := "(III)I" } : Jvm.MethodName)) ∈ lw_gd := mem_gd rr1586.1 rfl
def rr1587 := List.forall_mem_cons.mp rr1586.2
theorem lk1587 : (Jvm.Cond.static ({ cls := "YawnRouteModel", name := "between", desc := "(III)I" } : Jvm.MethodName)) ∈ lw_gd := mem_gd rr1587.1 rfl
def rr1588 := List.forall_mem_cons.mp rr1587.2
theorem lk1588 : (Jvm.Cond.code ({ cls := "YawnRouteModel", name := "between", desc := "(III)I" } : Jvm.MethodName) prog_14_method_39_code (5 : Nat) (Option.some Jvm.ClassFile.FieldType.int)) ∈ lw_gd := mem_gd rr1588.1 rfl
def rr1589 := List.forall_mem_cons.mp rr1588.2
theorem lk1589 : (Jvm.Cond.constantLong "YawnRouteModel" (212 : Nat) (1000000 : Int64)) ∈ lw_gd := mem_gd rr1589.1 rfl
def rr1590 := List.forall_mem_cons.mp rr1589.2
theorem lk1590 : (Jvm.Cond.constantLong "YawnRouteModel" (214 : Nat) (-1000000 : Int64)) ∈ lw_gd := mem_gd rr1590.1 rfl
def rr1591 := List.forall_mem_cons.mp rr1590.2
theorem lk1591 : (Jvm.Cond.methodLink "YawnRouteModel" (242 : Nat) ({ cls := "YawnRouteModel", name := "passedTo", desc := "(III)I" } : Jvm.MethodName)) ∈ lw_gd := mem_gd rr1591.1 rfl
def rr1592 := List.forall_mem_cons.mp rr1591.2
def rr1593 := List.forall_mem_cons.mp rr1592.2
theorem lk1593 : (Jvm.Cond.instanceMethod ({ cls := "YawnRouteModel", name := "passedTo", desc := "(III)I" } : Jvm.MethodName)) ∈ lw_gd := mem_gd rr1593.1 rfl
def rr1594 := List.forall_mem_cons.mp rr1593.2
theorem lk1594 : (Jvm.Cond.code ({ cls := "YawnRouteModel", name := "passedTo", desc := "(III)I" } : Jvm.MethodName) prog_14_method_42_code (5 : Nat) (Option.some Jvm.ClassFile.FieldType.int)) ∈ lw_gd := mem_gd rr1594.1 rfl
def rr1595 := List.forall_mem_cons.mp rr1594.2
theorem lk1595 : (Jvm.Cond.methodLink "YawnRouteLaw" (44 : Nat) ({ cls := "YawnRouteModel", name := "pass", desc := "(I)I" } : Jvm.MethodName)) ∈ lw_gd := mem_gd rr1595.1 rfl
def rr1596 := List.forall_mem_cons.mp rr1595.2
theorem lk1596 : (Jvm.Cond.instanceMethod ({ cls := "YawnRouteModel", name := "pass", desc := "(I)I" } : Jvm.MethodName)) ∈ lw_gd := mem_gd rr1596.1 rfl
def rr1597 := List.forall_mem_cons.mp rr1596.2
theorem lk1597 : (Jvm.Cond.selects "YawnRouteModel" ({ cls := "YawnRouteModel", name := "pass", desc := "(I)I" } : Jvm.MethodName) ({ cls := "YawnRouteModel", name := "pass", desc := "(I)I" } : Jvm.MethodName)) ∈ lw_gd := mem_gd rr1597.1 rfl
def rr1598 := List.forall_mem_cons.mp rr1597.2
theorem lk1598 : (Jvm.Cond.code ({ cls := "YawnRouteModel", name := "pass", desc := "(I)I" } : Jvm.MethodName) prog_14_method_52_code (3 : Nat) (Option.some Jvm.ClassFile.FieldType.int)) ∈ lw_gd := mem_gd rr1598.1 rfl
def rr1599 := List.forall_mem_cons.mp rr1598.2
theorem lk1599 : (Jvm.Cond.methodLink "YawnRouteModel" (245 : Nat) ({ cls := "YawnRouteModel", name := "keeps", desc := "()V" } : Jvm.MethodName)) ∈ lw_gd := mem_gd rr1599.1 rfl
def rr1600 := List.forall_mem_cons.mp rr1599.2
def rr1601 := List.forall_mem_cons.mp rr1600.2
theorem lk1601 : (Jvm.Cond.instanceMethod ({ cls := "YawnRouteModel", name := "keeps", desc := "()V" } : Jvm.MethodName)) ∈ lw_gd := mem_gd rr1601.1 rfl
def rr1602 := List.forall_mem_cons.mp rr1601.2
theorem lk1602 : (Jvm.Cond.code ({ cls := "YawnRouteModel", name := "keeps", desc := "()V" } : Jvm.MethodName) prog_14_method_47_code (2 : Nat) (Option.none : Option Jvm.ClassFile.FieldType)) ∈ lw_gd := mem_gd rr1602.1 rfl
def rr1603 := List.forall_mem_cons.mp rr1602.2
theorem lk1603 : (Jvm.Cond.methodLink "YawnRouteModel" (248 : Nat) ({ cls := "YawnRouteModel", name := "goes", desc := "(I)V" } : Jvm.MethodName)) ∈ lw_gd := mem_gd rr1603.1 rfl
def rr1604 := List.forall_mem_cons.mp rr1603.2
def rr1605 := List.forall_mem_cons.mp rr1604.2
theorem lk1605 : (Jvm.Cond.instanceMethod ({ cls := "YawnRouteModel", name := "goes", desc := "(I)V" } : Jvm.MethodName)) ∈ lw_gd := mem_gd rr1605.1 rfl
def rr1606 := List.forall_mem_cons.mp rr1605.2
theorem lk1606 : (Jvm.Cond.code ({ cls := "YawnRouteModel", name := "goes", desc := "(I)V" } : Jvm.MethodName) prog_14_method_50_code (3 : Nat) (Option.none : Option Jvm.ClassFile.FieldType)) ∈ lw_gd := mem_gd rr1606.1 rfl
def rr1607 := List.forall_mem_cons.mp rr1606.2
theorem lk1607 : (Jvm.Cond.methodLink "YawnRouteModel" (251 : Nat) ({ cls := "YawnRouteModel", name := "notes", desc := "()V" } : Jvm.MethodName)) ∈ lw_gd := mem_gd rr1607.1 rfl
def rr1608 := List.forall_mem_cons.mp rr1607.2
def rr1609 := List.forall_mem_cons.mp rr1608.2
theorem lk1609 : (Jvm.Cond.instanceMethod ({ cls := "YawnRouteModel", name := "notes", desc := "()V" } : Jvm.MethodName)) ∈ lw_gd := mem_gd rr1609.1 rfl
def rr1610 := List.forall_mem_cons.mp rr1609.2
theorem lk1610 : (Jvm.Cond.code ({ cls := "YawnRouteModel", name := "notes", desc := "()V" } : Jvm.MethodName) prog_14_method_49_code (2 : Nat) (Option.none : Option Jvm.ClassFile.FieldType)) ∈ lw_gd := mem_gd rr1610.1 rfl
def rr1611 := List.forall_mem_cons.mp rr1610.2
theorem lk1611 : (Jvm.Cond.methodLink "YawnRouteLaw" (48 : Nat) ({ cls := "YawnRouteModel", name := "off", desc := "(II)I" } : Jvm.MethodName)) ∈ lw_gd := mem_gd rr1611.1 rfl
def rr1612 := List.forall_mem_cons.mp rr1611.2
theorem lk1612 : (Jvm.Cond.instanceMethod ({ cls := "YawnRouteModel", name := "off", desc := "(II)I" } : Jvm.MethodName)) ∈ lw_gd := mem_gd rr1612.1 rfl
def rr1613 := List.forall_mem_cons.mp rr1612.2
theorem lk1613 : (Jvm.Cond.selects "YawnRouteModel" ({ cls := "YawnRouteModel", name := "off", desc := "(II)I" } : Jvm.MethodName) ({ cls := "YawnRouteModel", name := "off", desc := "(II)I" } : Jvm.MethodName)) ∈ lw_gd := mem_gd rr1613.1 rfl
def rr1614 := List.forall_mem_cons.mp rr1613.2
theorem lk1614 : (Jvm.Cond.code ({ cls := "YawnRouteModel", name := "off", desc := "(II)I" } : Jvm.MethodName) prog_14_method_53_code (3 : Nat) (Option.some Jvm.ClassFile.FieldType.int)) ∈ lw_gd := mem_gd rr1614.1 rfl
def rr1615 := List.forall_mem_cons.mp rr1614.2
theorem lk1615 : (Jvm.Cond.methodLink "YawnRouteModel" (254 : Nat) ({ cls := "YawnRouteModel", name := "isSize", desc := "(J)Z" } : Jvm.MethodName)) ∈ lw_gd := mem_gd rr1615.1 rfl
def rr1616 := List.forall_mem_cons.mp rr1615.2
theorem lk1616 : (Jvm.Cond.static ({ cls := "YawnRouteModel", name := "isSize", desc := "(J)Z" } : Jvm.MethodName)) ∈ lw_gd := mem_gd rr1616.1 rfl
def rr1617 := List.forall_mem_cons.mp rr1616.2
theorem lk1617 : (Jvm.Cond.code ({ cls := "YawnRouteModel", name := "isSize", desc := "(J)Z" } : Jvm.MethodName) prog_14_method_36_code (2 : Nat) (Option.some Jvm.ClassFile.FieldType.boolean)) ∈ lw_gd := mem_gd rr1617.1 rfl
def rr1618 := List.forall_mem_cons.mp rr1617.2
theorem lk1618 : (Jvm.Cond.constantLong "YawnRouteModel" (210 : Nat) (40 : Int64)) ∈ lw_gd := mem_gd rr1618.1 rfl
def rr1619 := List.forall_mem_cons.mp rr1618.2
theorem lk1619 : (Jvm.Cond.methodLink "YawnRouteModel" (257 : Nat) ({ cls := "YawnRouteModel", name := "letsOff", desc := "(II)V" } : Jvm.MethodName)) ∈ lw_gd := mem_gd rr1619.1 rfl
def rr1620 := List.forall_mem_cons.mp rr1619.2
def rr1621 := List.forall_mem_cons.mp rr1620.2
theorem lk1621 : (Jvm.Cond.instanceMethod ({ cls := "YawnRouteModel", name := "letsOff", desc := "(II)V" } : Jvm.MethodName)) ∈ lw_gd := mem_gd rr1621.1 rfl
def rr1622 := List.forall_mem_cons.mp rr1621.2
theorem lk1622 : (Jvm.Cond.code ({ cls := "YawnRouteModel", name := "letsOff", desc := "(II)V" } : Jvm.MethodName) prog_14_method_51_code (3 : Nat) (Option.none : Option Jvm.ClassFile.FieldType)) ∈ lw_gd := mem_gd rr1622.1 rfl
def rr1623 := List.forall_mem_cons.mp rr1622.2
theorem lk1623 : (Jvm.Cond.methodLink "YawnRouteLaw" (52 : Nat) ({ cls := "YawnRouteModel", name := "sleep", desc := "(I)I" } : Jvm.MethodName)) ∈ lw_gd := mem_gd rr1623.1 rfl
def rr1624 := List.forall_mem_cons.mp rr1623.2
theorem lk1624 : (Jvm.Cond.instanceMethod ({ cls := "YawnRouteModel", name := "sleep", desc := "(I)I" } : Jvm.MethodName)) ∈ lw_gd := mem_gd rr1624.1 rfl
def rr1625 := List.forall_mem_cons.mp rr1624.2
theorem lk1625 : (Jvm.Cond.selects "YawnRouteModel" ({ cls := "YawnRouteModel", name := "sleep", desc := "(I)I" } : Jvm.MethodName) ({ cls := "YawnRouteModel", name := "sleep", desc := "(I)I" } : Jvm.MethodName)) ∈ lw_gd := mem_gd rr1625.1 rfl
def rr1626 := List.forall_mem_cons.mp rr1625.2
theorem lk1626 : (Jvm.Cond.code ({ cls := "YawnRouteModel", name := "sleep", desc := "(I)I" } : Jvm.MethodName) prog_14_method_54_code (2 : Nat) (Option.some Jvm.ClassFile.FieldType.int)) ∈ lw_gd := mem_gd rr1626.1 rfl
def rr1627 := List.forall_mem_cons.mp rr1626.2
theorem lk1627 : (Jvm.Cond.methodLink "YawnRouteLaw" (56 : Nat) ({ cls := "YawnRouteModel", name := "dull", desc := "(II)I" } : Jvm.MethodName)) ∈ lw_gd := mem_gd rr1627.1 rfl
def rr1628 := List.forall_mem_cons.mp rr1627.2
theorem lk1628 : (Jvm.Cond.instanceMethod ({ cls := "YawnRouteModel", name := "dull", desc := "(II)I" } : Jvm.MethodName)) ∈ lw_gd := mem_gd rr1628.1 rfl
def rr1629 := List.forall_mem_cons.mp rr1628.2
theorem lk1629 : (Jvm.Cond.selects "YawnRouteModel" ({ cls := "YawnRouteModel", name := "dull", desc := "(II)I" } : Jvm.MethodName) ({ cls := "YawnRouteModel", name := "dull", desc := "(II)I" } : Jvm.MethodName)) ∈ lw_gd := mem_gd rr1629.1 rfl
def rr1630 := List.forall_mem_cons.mp rr1629.2
theorem lk1630 : (Jvm.Cond.code ({ cls := "YawnRouteModel", name := "dull", desc := "(II)I" } : Jvm.MethodName) prog_14_method_55_code (3 : Nat) (Option.some Jvm.ClassFile.FieldType.int)) ∈ lw_gd := mem_gd rr1630.1 rfl
def rr1631 := List.forall_mem_cons.mp rr1630.2
theorem lk1631 : (Jvm.Cond.constantLong "YawnRouteModel" (261 : Nat) (9 : Int64)) ∈ lw_gd := mem_gd rr1631.1 rfl
def rr1632 := List.forall_mem_cons.mp rr1631.2
theorem lk1632 : (Jvm.Cond.methodLink "YawnRouteLaw" (60 : Nat) ({ cls := "YawnRouteModel", name := "undo", desc := "(I)I" } : Jvm.MethodName)) ∈ lw_gd := mem_gd rr1632.1 rfl
def rr1633 := List.forall_mem_cons.mp rr1632.2
theorem lk1633 : (Jvm.Cond.instanceMethod ({ cls := "YawnRouteModel", name := "undo", desc := "(I)I" } : Jvm.MethodName)) ∈ lw_gd := mem_gd rr1633.1 rfl
def rr1634 := List.forall_mem_cons.mp rr1633.2
theorem lk1634 : (Jvm.Cond.selects "YawnRouteModel" ({ cls := "YawnRouteModel", name := "undo", desc := "(I)I" } : Jvm.MethodName) ({ cls := "YawnRouteModel", name := "undo", desc := "(I)I" } : Jvm.MethodName)) ∈ lw_gd := mem_gd rr1634.1 rfl
def rr1635 := List.forall_mem_cons.mp rr1634.2
theorem lk1635 : (Jvm.Cond.code ({ cls := "YawnRouteModel", name := "undo", desc := "(I)I" } : Jvm.MethodName) prog_14_method_56_code (3 : Nat) (Option.some Jvm.ClassFile.FieldType.int)) ∈ lw_gd := mem_gd rr1635.1 rfl
def rr1636 := List.forall_mem_cons.mp rr1635.2
theorem lk1636 : (Jvm.Cond.constantLong "YawnRouteModel" (263 : Nat) (10 : Int64)) ∈ lw_gd := mem_gd rr1636.1 rfl
def rr1637 := List.forall_mem_cons.mp rr1636.2
theorem lk1637 : (Jvm.Cond.methodLink "YawnRouteLaw" (64 : Nat) ({ cls := "YawnRouteModel", name := "judge", desc := "(II)I" } : Jvm.MethodName)) ∈ lw_gd := mem_gd rr1637.1 rfl
def rr1638 := List.forall_mem_cons.mp rr1637.2
theorem lk1638 : (Jvm.Cond.instanceMethod ({ cls := "YawnRouteModel", name := "judge", desc := "(II)I" } : Jvm.MethodName)) ∈ lw_gd := mem_gd rr1638.1 rfl
def rr1639 := List.forall_mem_cons.mp rr1638.2
theorem lk1639 : (Jvm.Cond.selects "YawnRouteModel" ({ cls := "YawnRouteModel", name := "judge", desc := "(II)I" } : Jvm.MethodName) ({ cls := "YawnRouteModel", name := "judge", desc := "(II)I" } : Jvm.MethodName)) ∈ lw_gd := mem_gd rr1639.1 rfl
def rr1640 := List.forall_mem_cons.mp rr1639.2
theorem lk1640 : (Jvm.Cond.code ({ cls := "YawnRouteModel", name := "judge", desc := "(II)I" } : Jvm.MethodName) prog_14_method_61_code (7 : Nat) (Option.some Jvm.ClassFile.FieldType.int)) ∈ lw_gd := mem_gd rr1640.1 rfl
def rr1641 := List.forall_mem_cons.mp rr1640.2
theorem lk1641 : (Jvm.Cond.constantLong "YawnRouteModel" (284 : Nat) (3 : Int64)) ∈ lw_gd := mem_gd rr1641.1 rfl
def rr1642 := List.forall_mem_cons.mp rr1641.2
theorem lk1642 : (Jvm.Cond.methodLink "YawnRouteModel" (286 : Nat) ({ cls := "YawnRouteModel", name := "noTray", desc := "(I)I" } : Jvm.MethodName)) ∈ lw_gd := mem_gd rr1642.1 rfl
def rr1643 := List.forall_mem_cons.mp rr1642.2
def rr1644 := List.forall_mem_cons.mp rr1643.2
theorem lk1644 : (Jvm.Cond.instanceMethod ({ cls := "YawnRouteModel", name := "noTray", desc := "(I)I" } : Jvm.MethodName)) ∈ lw_gd := mem_gd rr1644.1 rfl
def rr1645 := List.forall_mem_cons.mp rr1644.2
theorem lk1645 : (Jvm.Cond.code ({ cls := "YawnRouteModel", name := "noTray", desc := "(I)I" } : Jvm.MethodName) prog_14_method_60_code (2 : Nat) (Option.some Jvm.ClassFile.FieldType.int)) ∈ lw_gd := mem_gd rr1645.1 rfl
def rr1646 := List.forall_mem_cons.mp rr1645.2
theorem lk1646 : (Jvm.Cond.methodLink "YawnRouteModel" (289 : Nat) ({ cls := "YawnRouteModel", name := "tells", desc := "(I)I" } : Jvm.MethodName)) ∈ lw_gd := mem_gd rr1646.1 rfl
def rr1647 := List.forall_mem_cons.mp rr1646.2
def rr1648 := List.forall_mem_cons.mp rr1647.2
theorem lk1648 : (Jvm.Cond.instanceMethod ({ cls := "YawnRouteModel", name := "tells", desc := "(I)I" } : Jvm.MethodName)) ∈ lw_gd := mem_gd rr1648.1 rfl
def rr1649 := List.forall_mem_cons.mp rr1648.2
theorem lk1649 : (Jvm.Cond.code ({ cls := "YawnRouteModel", name := "tells", desc := "(I)I" } : Jvm.MethodName) prog_14_method_59_code (3 : Nat) (Option.some Jvm.ClassFile.FieldType.int)) ∈ lw_gd := mem_gd rr1649.1 rfl
def rr1650 := List.forall_mem_cons.mp rr1649.2
theorem lk1650 : (Jvm.Cond.methodLink "YawnRouteModel" (278 : Nat) ({ cls := "YawnRouteModel", name := "whyNot", desc := "(J)I" } : Jvm.MethodName)) ∈ lw_gd := mem_gd rr1650.1 rfl
def rr1651 := List.forall_mem_cons.mp rr1650.2
def rr1652 := List.forall_mem_cons.mp rr1651.2
theorem lk1652 : (Jvm.Cond.instanceMethod ({ cls := "YawnRouteModel", name := "whyNot", desc := "(J)I" } : Jvm.MethodName)) ∈ lw_gd := mem_gd rr1652.1 rfl
def rr1653 := List.forall_mem_cons.mp rr1652.2
theorem lk1653 : (Jvm.Cond.code ({ cls := "YawnRouteModel", name := "whyNot", desc := "(J)I" } : Jvm.MethodName) prog_14_method_57_code (3 : Nat) (Option.some Jvm.ClassFile.FieldType.int)) ∈ lw_gd := mem_gd rr1653.1 rfl
def rr1654 := List.forall_mem_cons.mp rr1653.2
theorem lk1654 : (Jvm.Cond.constantLong "YawnRouteModel" (265 : Nat) (19 : Int64)) ∈ lw_gd := mem_gd rr1654.1 rfl
def rr1655 := List.forall_mem_cons.mp rr1654.2
theorem lk1655 : (Jvm.Cond.constantLong "YawnRouteModel" (267 : Nat) (100 : Int64)) ∈ lw_gd := mem_gd rr1655.1 rfl
def rr1656 := List.forall_mem_cons.mp rr1655.2
theorem lk1656 : (Jvm.Cond.constantLong "YawnRouteModel" (269 : Nat) (199 : Int64)) ∈ lw_gd := mem_gd rr1656.1 rfl
def rr1657 := List.forall_mem_cons.mp rr1656.2
theorem lk1657 : (Jvm.Cond.constantLong "YawnRouteModel" (271 : Nat) (1000 : Int64)) ∈ lw_gd := mem_gd rr1657.1 rfl
def rr1658 := List.forall_mem_cons.mp rr1657.2
theorem lk1658 : (Jvm.Cond.constantLong "YawnRouteModel" (273 : Nat) (1999 : Int64)) ∈ lw_gd := mem_gd rr1658.1 rfl
def rr1659 := List.forall_mem_cons.mp rr1658.2
theorem lk1659 : (Jvm.Cond.methodLink "YawnRouteModel" (281 : Nat) ({ cls := "YawnRouteModel", name := "does", desc := "(I)V" } : Jvm.MethodName)) ∈ lw_gd := mem_gd rr1659.1 rfl
def rr1660 := List.forall_mem_cons.mp rr1659.2
def rr1661 := List.forall_mem_cons.mp rr1660.2
theorem lk1661 : (Jvm.Cond.instanceMethod ({ cls := "YawnRouteModel", name := "does", desc := "(I)V" } : Jvm.MethodName)) ∈ lw_gd := mem_gd rr1661.1 rfl
def rr1662 := List.forall_mem_cons.mp rr1661.2
theorem lk1662 : (Jvm.Cond.code ({ cls := "YawnRouteModel", name := "does", desc := "(I)V" } : Jvm.MethodName) prog_14_method_58_code (2 : Nat) (Option.none : Option Jvm.ClassFile.FieldType)) ∈ lw_gd := mem_gd rr1662.1 rfl
def rr1663 := List.forall_mem_cons.mp rr1662.2
theorem lk1663 : (Jvm.Cond.methodLink "YawnRouteModel" (292 : Nat) ({ cls := "YawnRouteModel", name := "isAgain", desc := "()V" } : Jvm.MethodName)) ∈ lw_gd := mem_gd rr1663.1 rfl
def rr1664 := List.forall_mem_cons.mp rr1663.2
def rr1665 := List.forall_mem_cons.mp rr1664.2
theorem lk1665 : (Jvm.Cond.instanceMethod ({ cls := "YawnRouteModel", name := "isAgain", desc := "()V" } : Jvm.MethodName)) ∈ lw_gd := mem_gd rr1665.1 rfl
def rr1666 := List.forall_mem_cons.mp rr1665.2
theorem lk1666 : (Jvm.Cond.code ({ cls := "YawnRouteModel", name := "isAgain", desc := "()V" } : Jvm.MethodName) prog_14_method_48_code (2 : Nat) (Option.none : Option Jvm.ClassFile.FieldType)) ∈ lw_gd := mem_gd rr1666.1 rfl
def rr1667 := List.forall_mem_cons.mp rr1666.2
theorem lk1667 : (Jvm.Cond.methodLink "YawnRouteLaw" (68 : Nat) ({ cls := "YawnRouteModel", name := "perform", desc := "(I)I" } : Jvm.MethodName)) ∈ lw_gd := mem_gd rr1667.1 rfl
def rr1668 := List.forall_mem_cons.mp rr1667.2
theorem lk1668 : (Jvm.Cond.instanceMethod ({ cls := "YawnRouteModel", name := "perform", desc := "(I)I" } : Jvm.MethodName)) ∈ lw_gd := mem_gd rr1668.1 rfl
def rr1669 := List.forall_mem_cons.mp rr1668.2
theorem lk1669 : (Jvm.Cond.selects "YawnRouteModel" ({ cls := "YawnRouteModel", name := "perform", desc := "(I)I" } : Jvm.MethodName) ({ cls := "YawnRouteModel", name := "perform", desc := "(I)I" } : Jvm.MethodName)) ∈ lw_gd := mem_gd rr1669.1 rfl
def rr1670 := List.forall_mem_cons.mp rr1669.2
theorem lk1670 : (Jvm.Cond.code ({ cls := "YawnRouteModel", name := "perform", desc := "(I)I" } : Jvm.MethodName) prog_14_method_62_code (4 : Nat) (Option.some Jvm.ClassFile.FieldType.int)) ∈ lw_gd := mem_gd rr1670.1 rfl
def rr1671 := List.forall_mem_cons.mp rr1670.2
theorem lk1671 : (Jvm.Cond.methodLink "YawnRouteLaw" (72 : Nat) ({ cls := "YawnRouteModel", name := "season", desc := "(II)I" } : Jvm.MethodName)) ∈ lw_gd := mem_gd rr1671.1 rfl
def rr1672 := List.forall_mem_cons.mp rr1671.2
theorem lk1672 : (Jvm.Cond.instanceMethod ({ cls := "YawnRouteModel", name := "season", desc := "(II)I" } : Jvm.MethodName)) ∈ lw_gd := mem_gd rr1672.1 rfl
def rr1673 := List.forall_mem_cons.mp rr1672.2
theorem lk1673 : (Jvm.Cond.selects "YawnRouteModel" ({ cls := "YawnRouteModel", name := "season", desc := "(II)I" } : Jvm.MethodName) ({ cls := "YawnRouteModel", name := "season", desc := "(II)I" } : Jvm.MethodName)) ∈ lw_gd := mem_gd rr1673.1 rfl
def rr1674 := List.forall_mem_cons.mp rr1673.2
theorem lk1674 : (Jvm.Cond.code ({ cls := "YawnRouteModel", name := "season", desc := "(II)I" } : Jvm.MethodName) prog_14_method_65_code (6 : Nat) (Option.some Jvm.ClassFile.FieldType.int)) ∈ lw_gd := mem_gd rr1674.1 rfl
def rr1675 := List.forall_mem_cons.mp rr1674.2
theorem lk1675 : (Jvm.Cond.methodLink "YawnRouteModel" (302 : Nat) ({ cls := "YawnRouteModel", name := "drawn", desc := "()I" } : Jvm.MethodName)) ∈ lw_gd := mem_gd rr1675.1 rfl
def rr1676 := List.forall_mem_cons.mp rr1675.2
def rr1677 := List.forall_mem_cons.mp rr1676.2
theorem lk1677 : (Jvm.Cond.instanceMethod ({ cls := "YawnRouteModel", name := "drawn", desc := "()I" } : Jvm.MethodName)) ∈ lw_gd := mem_gd rr1677.1 rfl
def rr1678 := List.forall_mem_cons.mp rr1677.2
theorem lk1678 : (Jvm.Cond.code ({ cls := "YawnRouteModel", name := "drawn", desc := "()I" } : Jvm.MethodName) prog_14_method_64_code (3 : Nat) (Option.some Jvm.ClassFile.FieldType.int)) ∈ lw_gd := mem_gd rr1678.1 rfl
def rr1679 := List.forall_mem_cons.mp rr1678.2
theorem lk1679 : (Jvm.Cond.methodLink "YawnRouteModel" (299 : Nat) ({ cls := "YawnRouteModel", name := "draw", desc := "(I)I" } : Jvm.MethodName)) ∈ lw_gd := mem_gd rr1679.1 rfl
theorem tq7 : ∀ w ∈ tables_1_8, w ∈ lw_tbl := fun w h => List.mem_append_right _ (List.mem_append_right _ (List.mem_append_right _ (List.mem_append_right _ (List.mem_append_right _ (List.mem_append_right _ (List.mem_append_right _ (List.mem_append_right _ (List.mem_append_left _ h))))))))
def rr1680 := List.forall_mem_cons.mp tq7
def rr1681 := List.forall_mem_cons.mp rr1680.2
theorem lk1681 : (Jvm.Cond.instanceMethod ({ cls := "YawnRouteModel", name := "draw", desc := "(I)I" } : Jvm.MethodName)) ∈ lw_gd := mem_gd rr1681.1 rfl
def rr1682 := List.forall_mem_cons.mp rr1681.2
theorem lk1682 : (Jvm.Cond.code ({ cls := "YawnRouteModel", name := "draw", desc := "(I)I" } : Jvm.MethodName) prog_14_method_63_code (2 : Nat) (Option.some Jvm.ClassFile.FieldType.int)) ∈ lw_gd := mem_gd rr1682.1 rfl
def rr1683 := List.forall_mem_cons.mp rr1682.2
theorem lk1683 : (Jvm.Cond.constant "YawnRouteModel" (295 : Nat) (1103515245 : Int32)) ∈ lw_gd := mem_gd rr1683.1 rfl
def rr1684 := List.forall_mem_cons.mp rr1683.2
theorem lk1684 : (Jvm.Cond.methodLink "YawnRouteLaw" (76 : Nat) ({ cls := "YawnRouteModel", name := "soonest", desc := "(II)I" } : Jvm.MethodName)) ∈ lw_gd := mem_gd rr1684.1 rfl
def rr1685 := List.forall_mem_cons.mp rr1684.2
theorem lk1685 : (Jvm.Cond.instanceMethod ({ cls := "YawnRouteModel", name := "soonest", desc := "(II)I" } : Jvm.MethodName)) ∈ lw_gd := mem_gd rr1685.1 rfl
def rr1686 := List.forall_mem_cons.mp rr1685.2
theorem lk1686 : (Jvm.Cond.selects "YawnRouteModel" ({ cls := "YawnRouteModel", name := "soonest", desc := "(II)I" } : Jvm.MethodName) ({ cls := "YawnRouteModel", name := "soonest", desc := "(II)I" } : Jvm.MethodName)) ∈ lw_gd := mem_gd rr1686.1 rfl
def rr1687 := List.forall_mem_cons.mp rr1686.2
theorem lk1687 : (Jvm.Cond.code ({ cls := "YawnRouteModel", name := "soonest", desc := "(II)I" } : Jvm.MethodName) prog_14_method_78_code (3 : Nat) (Option.some Jvm.ClassFile.FieldType.int)) ∈ lw_gd := mem_gd rr1687.1 rfl
def rr1688 := List.forall_mem_cons.mp rr1687.2
theorem lk1688 : (Jvm.Cond.methodLink "YawnRouteModel" (335 : Nat) ({ cls := "YawnRouteModel", name := "comes", desc := "(IIZ)I" } : Jvm.MethodName)) ∈ lw_gd := mem_gd rr1688.1 rfl
def rr1689 := List.forall_mem_cons.mp rr1688.2
def rr1690 := List.forall_mem_cons.mp rr1689.2
theorem lk1690 : (Jvm.Cond.instanceMethod ({ cls := "YawnRouteModel", name := "comes", desc := "(IIZ)I" } : Jvm.MethodName)) ∈ lw_gd := mem_gd rr1690.1 rfl
def rr1691 := List.forall_mem_cons.mp rr1690.2
theorem lk1691 : (Jvm.Cond.code ({ cls := "YawnRouteModel", name := "comes", desc := "(IIZ)I" } : Jvm.MethodName) prog_14_method_75_code (6 : Nat) (Option.some Jvm.ClassFile.FieldType.int)) ∈ lw_gd := mem_gd rr1691.1 rfl
def rr1692 := List.forall_mem_cons.mp rr1691.2
theorem lk1692 : (Jvm.Cond.methodLink "YawnRouteModel" (325 : Nat) ({ cls := "YawnRouteModel", name := "noComing", desc := "(II)I" } : Jvm.MethodName)) ∈ lw_gd := mem_gd rr1692.1 rfl
def rr1693 := List.forall_mem_cons.mp rr1692.2
def rr1694 := List.forall_mem_cons.mp rr1693.2
theorem lk1694 : (Jvm.Cond.instanceMethod ({ cls := "YawnRouteModel", name := "noComing", desc := "(II)I" } : Jvm.MethodName)) ∈ lw_gd := mem_gd rr1694.1 rfl
def rr1695 := List.forall_mem_cons.mp rr1694.2
theorem lk1695 : (Jvm.Cond.code ({ cls := "YawnRouteModel", name := "noComing", desc := "(II)I" } : Jvm.MethodName) prog_14_method_74_code (3 : Nat) (Option.some Jvm.ClassFile.FieldType.int)) ∈ lw_gd := mem_gd rr1695.1 rfl
def rr1696 := List.forall_mem_cons.mp rr1695.2
theorem lk1696 : (Jvm.Cond.methodLink "YawnRouteModel" (328 : Nat) ({ cls := "YawnRouteModel", name := "laysFar", desc := "(IIZ)I" } : Jvm.MethodName)) ∈ lw_gd := mem_gd rr1696.1 rfl
def rr1697 := List.forall_mem_cons.mp rr1696.2
def rr1698 := List.forall_mem_cons.mp rr1697.2
theorem lk1698 : (Jvm.Cond.instanceMethod ({ cls := "YawnRouteModel", name := "laysFar", desc := "(IIZ)I" } : Jvm.MethodName)) ∈ lw_gd := mem_gd rr1698.1 rfl
def rr1699 := List.forall_mem_cons.mp rr1698.2
theorem lk1699 : (Jvm.Cond.code ({ cls := "YawnRouteModel", name := "laysFar", desc := "(IIZ)I" } : Jvm.MethodName) prog_14_method_73_code (7 : Nat) (Option.some Jvm.ClassFile.FieldType.int)) ∈ lw_gd := mem_gd rr1699.1 rfl
def rr1700 := List.forall_mem_cons.mp rr1699.2
theorem lk1700 : (Jvm.Cond.methodLink "YawnRouteModel" (319 : Nat) ({ cls := "YawnRouteModel", name := "laysThen", desc := "(I)V" } : Jvm.MethodName)) ∈ lw_gd := mem_gd rr1700.1 rfl
def rr1701 := List.forall_mem_cons.mp rr1700.2
def rr1702 := List.forall_mem_cons.mp rr1701.2
theorem lk1702 : (Jvm.Cond.instanceMethod ({ cls := "YawnRouteModel", name := "laysThen", desc := "(I)V" } : Jvm.MethodName)) ∈ lw_gd := mem_gd rr1702.1 rfl
def rr1703 := List.forall_mem_cons.mp rr1702.2
theorem lk1703 : (Jvm.Cond.code ({ cls := "YawnRouteModel", name := "laysThen", desc := "(I)V" } : Jvm.MethodName) prog_14_method_68_code (6 : Nat) (Option.none : Option Jvm.ClassFile.FieldType)) ∈ lw_gd := mem_gd rr1703.1 rfl
def rr1704 := List.forall_mem_cons.mp rr1703.2
theorem lk1704 : (Jvm.Cond.methodLink "YawnRouteModel" (305 : Nat) ({ cls := "YawnRouteModel", name := "standOf", desc := "(II)I" } : Jvm.MethodName)) ∈ lw_gd := mem_gd rr1704.1 rfl
def rr1705 := List.forall_mem_cons.mp rr1704.2
theorem lk1705 : (Jvm.Cond.static ({ cls := "YawnRouteModel", name := "standOf", desc := "(II)I" } : Jvm.MethodName)) ∈ lw_gd := mem_gd rr1705.1 rfl
def rr1706 := List.forall_mem_cons.mp rr1705.2
theorem lk1706 : (Jvm.Cond.code ({ cls := "YawnRouteModel", name := "standOf", desc := "(II)I" } : Jvm.MethodName) prog_14_method_66_code (2 : Nat) (Option.some Jvm.ClassFile.FieldType.int)) ∈ lw_gd := mem_gd rr1706.1 rfl
def rr1707 := List.forall_mem_cons.mp rr1706.2
theorem lk1707 : (Jvm.Cond.constant "YawnRouteModel" (314 : Nat) (268435456 : Int32)) ∈ lw_gd := mem_gd rr1707.1 rfl
def rr1708 := List.forall_mem_cons.mp rr1707.2
theorem lk1708 : (Jvm.Cond.methodLink "YawnRouteModel" (322 : Nat) ({ cls := "YawnRouteModel", name := "farBy", desc := "(IIZ)I" } : Jvm.MethodName)) ∈ lw_gd := mem_gd rr1708.1 rfl
def rr1709 := List.forall_mem_cons.mp rr1708.2
def rr1710 := List.forall_mem_cons.mp rr1709.2
theorem lk1710 : (Jvm.Cond.instanceMethod ({ cls := "YawnRouteModel", name := "farBy", desc := "(IIZ)I" } : Jvm.MethodName)) ∈ lw_gd := mem_gd rr1710.1 rfl
def rr1711 := List.forall_mem_cons.mp rr1710.2
theorem lk1711 : (Jvm.Cond.code ({ cls := "YawnRouteModel", name := "farBy", desc := "(IIZ)I" } : Jvm.MethodName) prog_14_method_72_code (5 : Nat) (Option.some Jvm.ClassFile.FieldType.int)) ∈ lw_gd := mem_gd rr1711.1 rfl
def rr1712 := List.forall_mem_cons.mp rr1711.2
theorem lk1712 : (Jvm.Cond.methodLink "YawnRouteModel" (311 : Nat) ({ cls := "YawnRouteModel", name := "routed", desc := "(II)I" } : Jvm.MethodName)) ∈ lw_gd := mem_gd rr1712.1 rfl
def rr1713 := List.forall_mem_cons.mp rr1712.2
def rr1714 := List.forall_mem_cons.mp rr1713.2
theorem lk1714 : (Jvm.Cond.instanceMethod ({ cls := "YawnRouteModel", name := "routed", desc := "(II)I" } : Jvm.MethodName)) ∈ lw_gd := mem_gd rr1714.1 rfl
def rr1715 := List.forall_mem_cons.mp rr1714.2
theorem lk1715 : (Jvm.Cond.code ({ cls := "YawnRouteModel", name := "routed", desc := "(II)I" } : Jvm.MethodName) prog_14_method_69_code (4 : Nat) (Option.some Jvm.ClassFile.FieldType.int)) ∈ lw_gd := mem_gd rr1715.1 rfl
def rr1716 := List.forall_mem_cons.mp rr1715.2
theorem lk1716 : (Jvm.Cond.methodLink "YawnRouteModel" (315 : Nat) ({ cls := "YawnRouteModel", name := "countOf", desc := "(IIZ)I" } : Jvm.MethodName)) ∈ lw_gd := mem_gd rr1716.1 rfl
def rr1717 := List.forall_mem_cons.mp rr1716.2
def rr1718 := List.forall_mem_cons.mp rr1717.2
theorem lk1718 : (Jvm.Cond.instanceMethod ({ cls := "YawnRouteModel", name := "countOf", desc := "(IIZ)I" } : Jvm.MethodName)) ∈ lw_gd := mem_gd rr1718.1 rfl
def rr1719 := List.forall_mem_cons.mp rr1718.2
theorem lk1719 : (Jvm.Cond.code ({ cls := "YawnRouteModel", name := "countOf", desc := "(IIZ)I" } : Jvm.MethodName) prog_14_method_71_code (4 : Nat) (Option.some Jvm.ClassFile.FieldType.int)) ∈ lw_gd := mem_gd rr1719.1 rfl
def rr1720 := List.forall_mem_cons.mp rr1719.2
theorem lk1720 : (Jvm.Cond.methodLink "YawnRouteModel" (308 : Nat) ({ cls := "YawnRouteModel", name := "standNow", desc := "()I" } : Jvm.MethodName)) ∈ lw_gd := mem_gd rr1720.1 rfl
def rr1721 := List.forall_mem_cons.mp rr1720.2
def rr1722 := List.forall_mem_cons.mp rr1721.2
theorem lk1722 : (Jvm.Cond.instanceMethod ({ cls := "YawnRouteModel", name := "standNow", desc := "()I" } : Jvm.MethodName)) ∈ lw_gd := mem_gd rr1722.1 rfl
def rr1723 := List.forall_mem_cons.mp rr1722.2
theorem lk1723 : (Jvm.Cond.code ({ cls := "YawnRouteModel", name := "standNow", desc := "()I" } : Jvm.MethodName) prog_14_method_67_code (1 : Nat) (Option.some Jvm.ClassFile.FieldType.int)) ∈ lw_gd := mem_gd rr1723.1 rfl
def rr1724 := List.forall_mem_cons.mp rr1723.2
theorem lk1724 : (Jvm.Cond.methodLink "YawnRouteLaw" (80 : Nat) ({ cls := "YawnRouteModel", name := "soonBy", desc := "(III)I" } : Jvm.MethodName)) ∈ lw_gd := mem_gd rr1724.1 rfl
def rr1725 := List.forall_mem_cons.mp rr1724.2
theorem lk1725 : (Jvm.Cond.instanceMethod ({ cls := "YawnRouteModel", name := "soonBy", desc := "(III)I" } : Jvm.MethodName)) ∈ lw_gd := mem_gd rr1725.1 rfl
def rr1726 := List.forall_mem_cons.mp rr1725.2
theorem lk1726 : (Jvm.Cond.selects "YawnRouteModel" ({ cls := "YawnRouteModel", name := "soonBy", desc := "(III)I" } : Jvm.MethodName) ({ cls := "YawnRouteModel", name := "soonBy", desc := "(III)I" } : Jvm.MethodName)) ∈ lw_gd := mem_gd rr1726.1 rfl
def rr1727 := List.forall_mem_cons.mp rr1726.2
theorem lk1727 : (Jvm.Cond.code ({ cls := "YawnRouteModel", name := "soonBy", desc := "(III)I" } : Jvm.MethodName) prog_14_method_79_code (4 : Nat) (Option.some Jvm.ClassFile.FieldType.int)) ∈ lw_gd := mem_gd rr1727.1 rfl
def rr1728 := List.forall_mem_cons.mp rr1727.2
theorem lk1728 : (Jvm.Cond.methodLink "YawnRouteModel" (338 : Nat) ({ cls := "YawnRouteModel", name := "comesBy", desc := "(IIIZ)I" } : Jvm.MethodName)) ∈ lw_gd := mem_gd rr1728.1 rfl
def rr1729 := List.forall_mem_cons.mp rr1728.2
def rr1730 := List.forall_mem_cons.mp rr1729.2
theorem lk1730 : (Jvm.Cond.instanceMethod ({ cls := "YawnRouteModel", name := "comesBy", desc := "(IIIZ)I" } : Jvm.MethodName)) ∈ lw_gd := mem_gd rr1730.1 rfl
def rr1731 := List.forall_mem_cons.mp rr1730.2
theorem lk1731 : (Jvm.Cond.code ({ cls := "YawnRouteModel", name := "comesBy", desc := "(IIIZ)I" } : Jvm.MethodName) prog_14_method_77_code (5 : Nat) (Option.some Jvm.ClassFile.FieldType.int)) ∈ lw_gd := mem_gd rr1731.1 rfl
def rr1732 := List.forall_mem_cons.mp rr1731.2
theorem lk1732 : (Jvm.Cond.methodLink "YawnRouteModel" (331 : Nat) ({ cls := "YawnRouteModel", name := "stationAt", desc := "(IZ)I" } : Jvm.MethodName)) ∈ lw_gd := mem_gd rr1732.1 rfl
def rr1733 := List.forall_mem_cons.mp rr1732.2
def rr1734 := List.forall_mem_cons.mp rr1733.2
theorem lk1734 : (Jvm.Cond.instanceMethod ({ cls := "YawnRouteModel", name := "stationAt", desc := "(IZ)I" } : Jvm.MethodName)) ∈ lw_gd := mem_gd rr1734.1 rfl
def rr1735 := List.forall_mem_cons.mp rr1734.2
theorem lk1735 : (Jvm.Cond.code ({ cls := "YawnRouteModel", name := "stationAt", desc := "(IZ)I" } : Jvm.MethodName) prog_14_method_76_code (6 : Nat) (Option.some Jvm.ClassFile.FieldType.int)) ∈ lw_gd := mem_gd rr1735.1 rfl
def rr1736 := List.forall_mem_cons.mp rr1735.2
theorem lk1736 : (Jvm.Cond.methodLink "YawnRouteLaw" (84 : Nat) ({ cls := "YawnRouteModel", name := "fewest", desc := "(II)I" } : Jvm.MethodName)) ∈ lw_gd := mem_gd rr1736.1 rfl
def rr1737 := List.forall_mem_cons.mp rr1736.2
theorem lk1737 : (Jvm.Cond.instanceMethod ({ cls := "YawnRouteModel", name := "fewest", desc := "(II)I" } : Jvm.MethodName)) ∈ lw_gd := mem_gd rr1737.1 rfl
def rr1738 := List.forall_mem_cons.mp rr1737.2
theorem lk1738 : (Jvm.Cond.selects "YawnRouteModel" ({ cls := "YawnRouteModel", name := "fewest", desc := "(II)I" } : Jvm.MethodName) ({ cls := "YawnRouteModel", name := "fewest", desc := "(II)I" } : Jvm.MethodName)) ∈ lw_gd := mem_gd rr1738.1 rfl
def rr1739 := List.forall_mem_cons.mp rr1738.2
theorem lk1739 : (Jvm.Cond.code ({ cls := "YawnRouteModel", name := "fewest", desc := "(II)I" } : Jvm.MethodName) prog_14_method_80_code (3 : Nat) (Option.some Jvm.ClassFile.FieldType.int)) ∈ lw_gd := mem_gd rr1739.1 rfl
def rr1740 := List.forall_mem_cons.mp rr1739.2
theorem lk1740 : (Jvm.Cond.methodLink "YawnRouteLaw" (88 : Nat) ({ cls := "YawnRouteModel", name := "fewBy", desc := "(III)I" } : Jvm.MethodName)) ∈ lw_gd := mem_gd rr1740.1 rfl
def rr1741 := List.forall_mem_cons.mp rr1740.2
theorem lk1741 : (Jvm.Cond.instanceMethod ({ cls := "YawnRouteModel", name := "fewBy", desc := "(III)I" } : Jvm.MethodName)) ∈ lw_gd := mem_gd rr1741.1 rfl
def rr1742 := List.forall_mem_cons.mp rr1741.2
theorem lk1742 : (Jvm.Cond.selects "YawnRouteModel" ({ cls := "YawnRouteModel", name := "fewBy", desc := "(III)I" } : Jvm.MethodName) ({ cls := "YawnRouteModel", name := "fewBy", desc := "(III)I" } : Jvm.MethodName)) ∈ lw_gd := mem_gd rr1742.1 rfl
def rr1743 := List.forall_mem_cons.mp rr1742.2
theorem lk1743 : (Jvm.Cond.code ({ cls := "YawnRouteModel", name := "fewBy", desc := "(III)I" } : Jvm.MethodName) prog_14_method_81_code (4 : Nat) (Option.some Jvm.ClassFile.FieldType.int)) ∈ lw_gd := mem_gd rr1743.1 rfl
def rr1744 := List.forall_mem_cons.mp rr1743.2
theorem lk1744 : (Jvm.Cond.methodLink "YawnRouteLaw" (92 : Nat) ({ cls := "YawnRouteModel", name := "biggest", desc := "(I)I" } : Jvm.MethodName)) ∈ lw_gd := mem_gd rr1744.1 rfl
def rr1745 := List.forall_mem_cons.mp rr1744.2
theorem lk1745 : (Jvm.Cond.instanceMethod ({ cls := "YawnRouteModel", name := "biggest", desc := "(I)I" } : Jvm.MethodName)) ∈ lw_gd := mem_gd rr1745.1 rfl
def rr1746 := List.forall_mem_cons.mp rr1745.2
theorem lk1746 : (Jvm.Cond.selects "YawnRouteModel" ({ cls := "YawnRouteModel", name := "biggest", desc := "(I)I" } : Jvm.MethodName) ({ cls := "YawnRouteModel", name := "biggest", desc := "(I)I" } : Jvm.MethodName)) ∈ lw_gd := mem_gd rr1746.1 rfl
def rr1747 := List.forall_mem_cons.mp rr1746.2
theorem lk1747 : (Jvm.Cond.code ({ cls := "YawnRouteModel", name := "biggest", desc := "(I)I" } : Jvm.MethodName) prog_14_method_82_code (4 : Nat) (Option.some Jvm.ClassFile.FieldType.int)) ∈ lw_gd := mem_gd rr1747.1 rfl
def rr1748 := List.forall_mem_cons.mp rr1747.2
theorem lk1748 : (Jvm.Cond.methodLink "YawnRouteModel" (342 : Nat) ({ cls := "YawnRouteModel", name := "laysReached", desc := "()V" } : Jvm.MethodName)) ∈ lw_gd := mem_gd rr1748.1 rfl
def rr1749 := List.forall_mem_cons.mp rr1748.2
def rr1750 := List.forall_mem_cons.mp rr1749.2
theorem lk1750 : (Jvm.Cond.instanceMethod ({ cls := "YawnRouteModel", name := "laysReached", desc := "()V" } : Jvm.MethodName)) ∈ lw_gd := mem_gd rr1750.1 rfl
def rr1751 := List.forall_mem_cons.mp rr1750.2
theorem lk1751 : (Jvm.Cond.code ({ cls := "YawnRouteModel", name := "laysReached", desc := "()V" } : Jvm.MethodName) prog_14_method_70_code (5 : Nat) (Option.none : Option Jvm.ClassFile.FieldType)) ∈ lw_gd := mem_gd rr1751.1 rfl
def rr1752 := List.forall_mem_cons.mp rr1751.2
theorem lk1752 : (Jvm.Cond.methodLink "YawnRouteLaw" (97 : Nat) ({ cls := "YawnRouteModel", name := "reach", desc := "()I" } : Jvm.MethodName)) ∈ lw_gd := mem_gd rr1752.1 rfl
def rr1753 := List.forall_mem_cons.mp rr1752.2
theorem lk1753 : (Jvm.Cond.instanceMethod ({ cls := "YawnRouteModel", name := "reach", desc := "()I" } : Jvm.MethodName)) ∈ lw_gd := mem_gd rr1753.1 rfl
def rr1754 := List.forall_mem_cons.mp rr1753.2
theorem lk1754 : (Jvm.Cond.selects "YawnRouteModel" ({ cls := "YawnRouteModel", name := "reach", desc := "()I" } : Jvm.MethodName) ({ cls := "YawnRouteModel", name := "reach", desc := "()I" } : Jvm.MethodName)) ∈ lw_gd := mem_gd rr1754.1 rfl
def rr1755 := List.forall_mem_cons.mp rr1754.2
theorem lk1755 : (Jvm.Cond.code ({ cls := "YawnRouteModel", name := "reach", desc := "()I" } : Jvm.MethodName) prog_14_method_84_code (1 : Nat) (Option.some Jvm.ClassFile.FieldType.int)) ∈ lw_gd := mem_gd rr1755.1 rfl
def rr1756 := List.forall_mem_cons.mp rr1755.2
theorem lk1756 : (Jvm.Cond.methodLink "YawnRouteModel" (345 : Nat) ({ cls := "YawnRouteModel", name := "reachBy", desc := "(I)I" } : Jvm.MethodName)) ∈ lw_gd := mem_gd rr1756.1 rfl
def rr1757 := List.forall_mem_cons.mp rr1756.2
def rr1758 := List.forall_mem_cons.mp rr1757.2
theorem lk1758 : (Jvm.Cond.instanceMethod ({ cls := "YawnRouteModel", name := "reachBy", desc := "(I)I" } : Jvm.MethodName)) ∈ lw_gd := mem_gd rr1758.1 rfl
def rr1759 := List.forall_mem_cons.mp rr1758.2
theorem lk1759 : (Jvm.Cond.code ({ cls := "YawnRouteModel", name := "reachBy", desc := "(I)I" } : Jvm.MethodName) prog_14_method_83_code (4 : Nat) (Option.some Jvm.ClassFile.FieldType.int)) ∈ lw_gd := mem_gd rr1759.1 rfl
def rr1760 := List.forall_mem_cons.mp rr1759.2
theorem lk1760 : (Jvm.Cond.methodLink "YawnRouteLaw" (101 : Nat) ({ cls := "YawnRouteModel", name := "needed", desc := "(I)I" } : Jvm.MethodName)) ∈ lw_gd := mem_gd rr1760.1 rfl
def rr1761 := List.forall_mem_cons.mp rr1760.2
theorem lk1761 : (Jvm.Cond.instanceMethod ({ cls := "YawnRouteModel", name := "needed", desc := "(I)I" } : Jvm.MethodName)) ∈ lw_gd := mem_gd rr1761.1 rfl
def rr1762 := List.forall_mem_cons.mp rr1761.2
theorem lk1762 : (Jvm.Cond.selects "YawnRouteModel" ({ cls := "YawnRouteModel", name := "needed", desc := "(I)I" } : Jvm.MethodName) ({ cls := "YawnRouteModel", name := "needed", desc := "(I)I" } : Jvm.MethodName)) ∈ lw_gd := mem_gd rr1762.1 rfl
def rr1763 := List.forall_mem_cons.mp rr1762.2
theorem lk1763 : (Jvm.Cond.code ({ cls := "YawnRouteModel", name := "needed", desc := "(I)I" } : Jvm.MethodName) prog_14_method_85_code (4 : Nat) (Option.some Jvm.ClassFile.FieldType.int)) ∈ lw_gd := mem_gd rr1763.1 rfl
def rr1764 := List.forall_mem_cons.mp rr1763.2
theorem lk1764 : (Jvm.Cond.methodLink "YawnRouteLaw" (105 : Nat) ({ cls := "YawnRouteModel", name := "sleepers", desc := "(II)I" } : Jvm.MethodName)) ∈ lw_gd := mem_gd rr1764.1 rfl
def rr1765 := List.forall_mem_cons.mp rr1764.2
theorem lk1765 : (Jvm.Cond.instanceMethod ({ cls := "YawnRouteModel", name := "sleepers", desc := "(II)I" } : Jvm.MethodName)) ∈ lw_gd := mem_gd rr1765.1 rfl
def rr1766 := List.forall_mem_cons.mp rr1765.2
theorem lk1766 : (Jvm.Cond.selects "YawnRouteModel" ({ cls := "YawnRouteModel", name := "sleepers", desc := "(II)I" } : Jvm.MethodName) ({ cls := "YawnRouteModel", name := "sleepers", desc := "(II)I" } : Jvm.MethodName)) ∈ lw_gd := mem_gd rr1766.1 rfl
def rr1767 := List.forall_mem_cons.mp rr1766.2
theorem lk1767 : (Jvm.Cond.code ({ cls := "YawnRouteModel", name := "sleepers", desc := "(II)I" } : Jvm.MethodName) prog_14_method_86_code (5 : Nat) (Option.some Jvm.ClassFile.FieldType.int)) ∈ lw_gd := mem_gd rr1767.1 rfl
def rr1768 := List.forall_mem_cons.mp rr1767.2
theorem lk1768 : (Jvm.Cond.methodLink "YawnRouteModel" (348 : Nat) ({ cls := "YawnRouteModel", name := "bitsOf", desc := "(I)I" } : Jvm.MethodName)) ∈ lw_gd := mem_gd rr1768.1 rfl
def rr1769 := List.forall_mem_cons.mp rr1768.2
theorem lk1769 : (Jvm.Cond.static ({ cls := "YawnRouteModel", name := "bitsOf", desc := "(I)I" } : Jvm.MethodName)) ∈ lw_gd := mem_gd rr1769.1 rfl
def rr1770 := List.forall_mem_cons.mp rr1769.2
theorem lk1770 : (Jvm.Cond.code ({ cls := "YawnRouteModel", name := "bitsOf", desc := "(I)I" } : Jvm.MethodName) prog_14_method_37_code (3 : Nat) (Option.some Jvm.ClassFile.FieldType.int)) ∈ lw_gd := mem_gd rr1770.1 rfl
def rr1771 := List.forall_mem_cons.mp rr1770.2
theorem lk1771 : (Jvm.Cond.methodLink "YawnRouteLaw" (109 : Nat) ({ cls := "YawnRouteModel", name := "spread", desc := "(II)I" } : Jvm.MethodName)) ∈ lw_gd := mem_gd rr1771.1 rfl
def rr1772 := List.forall_mem_cons.mp rr1771.2
theorem lk1772 : (Jvm.Cond.instanceMethod ({ cls := "YawnRouteModel", name := "spread", desc := "(II)I" } : Jvm.MethodName)) ∈ lw_gd := mem_gd rr1772.1 rfl
def rr1773 := List.forall_mem_cons.mp rr1772.2
theorem lk1773 : (Jvm.Cond.selects "YawnRouteModel" ({ cls := "YawnRouteModel", name := "spread", desc := "(II)I" } : Jvm.MethodName) ({ cls := "YawnRouteModel", name := "spread", desc := "(II)I" } : Jvm.MethodName)) ∈ lw_gd := mem_gd rr1773.1 rfl
def rr1774 := List.forall_mem_cons.mp rr1773.2
theorem lk1774 : (Jvm.Cond.code ({ cls := "YawnRouteModel", name := "spread", desc := "(II)I" } : Jvm.MethodName) prog_14_method_90_code (4 : Nat) (Option.some Jvm.ClassFile.FieldType.int)) ∈ lw_gd := mem_gd rr1774.1 rfl
def rr1775 := List.forall_mem_cons.mp rr1774.2
theorem lk1775 : (Jvm.Cond.constantLong "YawnRouteModel" (355 : Nat) (999 : Int64)) ∈ lw_gd := mem_gd rr1775.1 rfl
def rr1776 := List.forall_mem_cons.mp rr1775.2
theorem lk1776 : (Jvm.Cond.methodLink "YawnRouteModel" (357 : Nat) ({ cls := "YawnRouteModel", name := "begins", desc := "()V" } : Jvm.MethodName)) ∈ lw_gd := mem_gd rr1776.1 rfl
def rr1777 := List.forall_mem_cons.mp rr1776.2
def rr1778 := List.forall_mem_cons.mp rr1777.2
theorem lk1778 : (Jvm.Cond.instanceMethod ({ cls := "YawnRouteModel", name := "begins", desc := "()V" } : Jvm.MethodName)) ∈ lw_gd := mem_gd rr1778.1 rfl
def rr1779 := List.forall_mem_cons.mp rr1778.2
theorem lk1779 : (Jvm.Cond.code ({ cls := "YawnRouteModel", name := "begins", desc := "()V" } : Jvm.MethodName) prog_14_method_89_code (1 : Nat) (Option.none : Option Jvm.ClassFile.FieldType)) ∈ lw_gd := mem_gd rr1779.1 rfl
def rr1780 := List.forall_mem_cons.mp rr1779.2
theorem lk1780 : (Jvm.Cond.methodLink "YawnRouteModel" (351 : Nat) ({ cls := "YawnRouteModel", name := "isAt", desc := "([III)V" } : Jvm.MethodName)) ∈ lw_gd := mem_gd rr1780.1 rfl
def rr1781 := List.forall_mem_cons.mp rr1780.2
theorem lk1781 : (Jvm.Cond.static ({ cls := "YawnRouteModel", name := "isAt", desc := "([III)V" } : Jvm.MethodName)) ∈ lw_gd := mem_gd rr1781.1 rfl
def rr1782 := List.forall_mem_cons.mp rr1781.2
theorem lk1782 : (Jvm.Cond.code ({ cls := "YawnRouteModel", name := "isAt", desc := "([III)V" } : Jvm.MethodName) prog_14_method_87_code (4 : Nat) (Option.none : Option Jvm.ClassFile.FieldType)) ∈ lw_gd := mem_gd rr1782.1 rfl
def rr1783 := List.forall_mem_cons.mp rr1782.2
theorem lk1783 : (Jvm.Cond.methodLink "YawnRouteModel" (360 : Nat) ({ cls := "YawnRouteModel", name := "spreads", desc := "([II)Z" } : Jvm.MethodName)) ∈ lw_gd := mem_gd rr1783.1 rfl
def rr1784 := List.forall_mem_cons.mp rr1783.2
def rr1785 := List.forall_mem_cons.mp rr1784.2
theorem lk1785 : (Jvm.Cond.instanceMethod ({ cls := "YawnRouteModel", name := "spreads", desc := "([II)Z" } : Jvm.MethodName)) ∈ lw_gd := mem_gd rr1785.1 rfl
def rr1786 := List.forall_mem_cons.mp rr1785.2
theorem lk1786 : (Jvm.Cond.code ({ cls := "YawnRouteModel", name := "spreads", desc := "([II)Z" } : Jvm.MethodName) prog_14_method_88_code (6 : Nat) (Option.some Jvm.ClassFile.FieldType.boolean)) ∈ lw_gd := mem_gd rr1786.1 rfl
def rr1787 := List.forall_mem_cons.mp rr1786.2
theorem lk1787 : (Jvm.Cond.methodLink "YawnRouteLaw" (113 : Nat) ({ cls := "YawnRouteModel", name := "rounds", desc := "()I" } : Jvm.MethodName)) ∈ lw_gd := mem_gd rr1787.1 rfl
def rr1788 := List.forall_mem_cons.mp rr1787.2
theorem lk1788 : (Jvm.Cond.instanceMethod ({ cls := "YawnRouteModel", name := "rounds", desc := "()I" } : Jvm.MethodName)) ∈ lw_gd := mem_gd rr1788.1 rfl
def rr1789 := List.forall_mem_cons.mp rr1788.2
theorem lk1789 : (Jvm.Cond.selects "YawnRouteModel" ({ cls := "YawnRouteModel", name := "rounds", desc := "()I" } : Jvm.MethodName) ({ cls := "YawnRouteModel", name := "rounds", desc := "()I" } : Jvm.MethodName)) ∈ lw_gd := mem_gd rr1789.1 rfl
def rr1790 := List.forall_mem_cons.mp rr1789.2
theorem lk1790 : (Jvm.Cond.code ({ cls := "YawnRouteModel", name := "rounds", desc := "()I" } : Jvm.MethodName) prog_14_method_91_code (2 : Nat) (Option.some Jvm.ClassFile.FieldType.int)) ∈ lw_gd := mem_gd rr1790.1 rfl
def rr1791 := List.forall_mem_cons.mp rr1790.2
theorem lk1791 : (Jvm.Cond.methodLink "YawnRouteLaw" (117 : Nat) ({ cls := "YawnRouteModel", name := "crowd", desc := "()I" } : Jvm.MethodName)) ∈ lw_gd := mem_gd rr1791.1 rfl
def rr1792 := List.forall_mem_cons.mp rr1791.2
theorem lk1792 : (Jvm.Cond.instanceMethod ({ cls := "YawnRouteModel", name := "crowd", desc := "()I" } : Jvm.MethodName)) ∈ lw_gd := mem_gd rr1792.1 rfl
def rr1793 := List.forall_mem_cons.mp rr1792.2
theorem lk1793 : (Jvm.Cond.selects "YawnRouteModel" ({ cls := "YawnRouteModel", name := "crowd", desc := "()I" } : Jvm.MethodName) ({ cls := "YawnRouteModel", name := "crowd", desc := "()I" } : Jvm.MethodName)) ∈ lw_gd := mem_gd rr1793.1 rfl
def rr1794 := List.forall_mem_cons.mp rr1793.2
theorem lk1794 : (Jvm.Cond.code ({ cls := "YawnRouteModel", name := "crowd", desc := "()I" } : Jvm.MethodName) prog_14_method_93_code (1 : Nat) (Option.some Jvm.ClassFile.FieldType.int)) ∈ lw_gd := mem_gd rr1794.1 rfl
def rr1795 := List.forall_mem_cons.mp rr1794.2
theorem lk1795 : (Jvm.Cond.methodLink "YawnRouteModel" (364 : Nat) ({ cls := "YawnRouteModel", name := "crowdBy", desc := "(I)I" } : Jvm.MethodName)) ∈ lw_gd := mem_gd rr1795.1 rfl
def rr1796 := List.forall_mem_cons.mp rr1795.2
def rr1797 := List.forall_mem_cons.mp rr1796.2
theorem lk1797 : (Jvm.Cond.instanceMethod ({ cls := "YawnRouteModel", name := "crowdBy", desc := "(I)I" } : Jvm.MethodName)) ∈ lw_gd := mem_gd rr1797.1 rfl
def rr1798 := List.forall_mem_cons.mp rr1797.2
theorem lk1798 : (Jvm.Cond.code ({ cls := "YawnRouteModel", name := "crowdBy", desc := "(I)I" } : Jvm.MethodName) prog_14_method_92_code (4 : Nat) (Option.some Jvm.ClassFile.FieldType.int)) ∈ lw_gd := mem_gd rr1798.1 rfl
def rr1799 := List.forall_mem_cons.mp rr1798.2
theorem lk1799 : (Jvm.Cond.methodLink "YawnRouteLaw" (121 : Nat) ({ cls := "YawnRouteModel", name := "stopper", desc := "()I" } : Jvm.MethodName)) ∈ lw_gd := mem_gd rr1799.1 rfl
def rr1800 := List.forall_mem_cons.mp rr1799.2
theorem lk1800 : (Jvm.Cond.instanceMethod ({ cls := "YawnRouteModel", name := "stopper", desc := "()I" } : Jvm.MethodName)) ∈ lw_gd := mem_gd rr1800.1 rfl
def rr1801 := List.forall_mem_cons.mp rr1800.2
theorem lk1801 : (Jvm.Cond.selects "YawnRouteModel" ({ cls := "YawnRouteModel", name := "stopper", desc := "()I" } : Jvm.MethodName) ({ cls := "YawnRouteModel", name := "stopper", desc := "()I" } : Jvm.MethodName)) ∈ lw_gd := mem_gd rr1801.1 rfl
def rr1802 := List.forall_mem_cons.mp rr1801.2
theorem lk1802 : (Jvm.Cond.code ({ cls := "YawnRouteModel", name := "stopper", desc := "()I" } : Jvm.MethodName) prog_14_method_94_code (5 : Nat) (Option.some Jvm.ClassFile.FieldType.int)) ∈ lw_gd := mem_gd rr1802.1 rfl
def rr1803 := List.forall_mem_cons.mp rr1802.2
theorem lk1803 : (Jvm.Cond.methodLink "YawnRouteLaw" (125 : Nat) ({ cls := "YawnRouteModel", name := "meets", desc := "(III)I" } : Jvm.MethodName)) ∈ lw_gd := mem_gd rr1803.1 rfl
def rr1804 := List.forall_mem_cons.mp rr1803.2
theorem lk1804 : (Jvm.Cond.instanceMethod ({ cls := "YawnRouteModel", name := "meets", desc := "(III)I" } : Jvm.MethodName)) ∈ lw_gd := mem_gd rr1804.1 rfl
def rr1805 := List.forall_mem_cons.mp rr1804.2
theorem lk1805 : (Jvm.Cond.selects "YawnRouteModel" ({ cls := "YawnRouteModel", name := "meets", desc := "(III)I" } : Jvm.MethodName) ({ cls := "YawnRouteModel", name := "meets", desc := "(III)I" } : Jvm.MethodName)) ∈ lw_gd := mem_gd rr1805.1 rfl
def rr1806 := List.forall_mem_cons.mp rr1805.2
theorem lk1806 : (Jvm.Cond.code ({ cls := "YawnRouteModel", name := "meets", desc := "(III)I" } : Jvm.MethodName) prog_14_method_96_code (7 : Nat) (Option.some Jvm.ClassFile.FieldType.int)) ∈ lw_gd := mem_gd rr1806.1 rfl
def rr1807 := List.forall_mem_cons.mp rr1806.2
theorem lk1807 : (Jvm.Cond.methodLink "YawnRouteModel" (367 : Nat) ({ cls := "YawnRouteModel", name := "haveBoth", desc := "()Z" } : Jvm.MethodName)) ∈ lw_gd := mem_gd rr1807.1 rfl
def rr1808 := List.forall_mem_cons.mp rr1807.2
def rr1809 := List.forall_mem_cons.mp rr1808.2
theorem lk1809 : (Jvm.Cond.instanceMethod ({ cls := "YawnRouteModel", name := "haveBoth", desc := "()Z" } : Jvm.MethodName)) ∈ lw_gd := mem_gd rr1809.1 rfl
def rr1810 := List.forall_mem_cons.mp rr1809.2
theorem lk1810 : (Jvm.Cond.code ({ cls := "YawnRouteModel", name := "haveBoth", desc := "()Z" } : Jvm.MethodName) prog_14_method_95_code (2 : Nat) (Option.some Jvm.ClassFile.FieldType.boolean)) ∈ lw_gd := mem_gd rr1810.1 rfl
def rr1811 := List.forall_mem_cons.mp rr1810.2
theorem lk1811 : (Jvm.Cond.methodLink "YawnRouteLaw" (130 : Nat) ({ cls := "YawnRouteModel", name := "back", desc := "(III)J" } : Jvm.MethodName)) ∈ lw_gd := mem_gd rr1811.1 rfl
def rr1812 := List.forall_mem_cons.mp rr1811.2
theorem lk1812 : (Jvm.Cond.instanceMethod ({ cls := "YawnRouteModel", name := "back", desc := "(III)J" } : Jvm.MethodName)) ∈ lw_gd := mem_gd rr1812.1 rfl
def rr1813 := List.forall_mem_cons.mp rr1812.2
theorem lk1813 : (Jvm.Cond.selects "YawnRouteModel" ({ cls := "YawnRouteModel", name := "back", desc := "(III)J" } : Jvm.MethodName) ({ cls := "YawnRouteModel", name := "back", desc := "(III)J" } : Jvm.MethodName)) ∈ lw_gd := mem_gd rr1813.1 rfl
def rr1814 := List.forall_mem_cons.mp rr1813.2
theorem lk1814 : (Jvm.Cond.code ({ cls := "YawnRouteModel", name := "back", desc := "(III)J" } : Jvm.MethodName) prog_14_method_99_code (5 : Nat) (Option.some Jvm.ClassFile.FieldType.long)) ∈ lw_gd := mem_gd rr1814.1 rfl
def rr1815 := List.forall_mem_cons.mp rr1814.2
theorem lk1815 : (Jvm.Cond.methodLink "YawnRouteModel" (371 : Nat) ({ cls := "YawnRouteModel", name := "noBack", desc := "(III)I" } : Jvm.MethodName)) ∈ lw_gd := mem_gd rr1815.1 rfl
def rr1816 := List.forall_mem_cons.mp rr1815.2
def rr1817 := List.forall_mem_cons.mp rr1816.2
theorem lk1817 : (Jvm.Cond.instanceMethod ({ cls := "YawnRouteModel", name := "noBack", desc := "(III)I" } : Jvm.MethodName)) ∈ lw_gd := mem_gd rr1817.1 rfl
def rr1818 := List.forall_mem_cons.mp rr1817.2
theorem lk1818 : (Jvm.Cond.code ({ cls := "YawnRouteModel", name := "noBack", desc := "(III)I" } : Jvm.MethodName) prog_14_method_97_code (4 : Nat) (Option.some Jvm.ClassFile.FieldType.int)) ∈ lw_gd := mem_gd rr1818.1 rfl
def rr1819 := List.forall_mem_cons.mp rr1818.2
theorem lk1819 : (Jvm.Cond.methodLink "YawnRouteModel" (374 : Nat) ({ cls := "YawnRouteModel", name := "laysBack", desc := "(IIII)J" } : Jvm.MethodName)) ∈ lw_gd := mem_gd rr1819.1 rfl
def rr1820 := List.forall_mem_cons.mp rr1819.2
def rr1821 := List.forall_mem_cons.mp rr1820.2
theorem lk1821 : (Jvm.Cond.instanceMethod ({ cls := "YawnRouteModel", name := "laysBack", desc := "(IIII)J" } : Jvm.MethodName)) ∈ lw_gd := mem_gd rr1821.1 rfl
def rr1822 := List.forall_mem_cons.mp rr1821.2
theorem lk1822 : (Jvm.Cond.code ({ cls := "YawnRouteModel", name := "laysBack", desc := "(IIII)J" } : Jvm.MethodName) prog_14_method_98_code (10 : Nat) (Option.some Jvm.ClassFile.FieldType.long)) ∈ lw_gd := mem_gd rr1822.1 rfl
def rr1823 := List.forall_mem_cons.mp rr1822.2
theorem lk1823 : (Jvm.Cond.methodLink "YawnRouteLaw" (135 : Nat) ({ cls := "YawnRouteModel", name := "backBy", desc := "(IIII)I" } : Jvm.MethodName)) ∈ lw_gd := mem_gd rr1823.1 rfl
def rr1824 := List.forall_mem_cons.mp rr1823.2
theorem lk1824 : (Jvm.Cond.instanceMethod ({ cls := "YawnRouteModel", name := "backBy", desc := "(IIII)I" } : Jvm.MethodName)) ∈ lw_gd := mem_gd rr1824.1 rfl
def rr1825 := List.forall_mem_cons.mp rr1824.2
theorem lk1825 : (Jvm.Cond.selects "YawnRouteModel" ({ cls := "YawnRouteModel", name := "backBy", desc := "(IIII)I" } : Jvm.MethodName) ({ cls := "YawnRouteModel", name := "backBy", desc := "(IIII)I" } : Jvm.MethodName)) ∈ lw_gd := mem_gd rr1825.1 rfl
def rr1826 := List.forall_mem_cons.mp rr1825.2
theorem lk1826 : (Jvm.Cond.code ({ cls := "YawnRouteModel", name := "backBy", desc := "(IIII)I" } : Jvm.MethodName) prog_14_method_100_code (9 : Nat) (Option.some Jvm.ClassFile.FieldType.int)) ∈ lw_gd := mem_gd rr1826.1 rfl
def rr1827 := List.forall_mem_cons.mp rr1826.2
theorem lk1827 : (Jvm.Cond.methodLink "YawnRouteLaw" (139 : Nat) ({ cls := "YawnRouteModel", name := "surely", desc := "(III)I" } : Jvm.MethodName)) ∈ lw_gd := mem_gd rr1827.1 rfl
def rr1828 := List.forall_mem_cons.mp rr1827.2
theorem lk1828 : (Jvm.Cond.instanceMethod ({ cls := "YawnRouteModel", name := "surely", desc := "(III)I" } : Jvm.MethodName)) ∈ lw_gd := mem_gd rr1828.1 rfl
def rr1829 := List.forall_mem_cons.mp rr1828.2
theorem lk1829 : (Jvm.Cond.selects "YawnRouteModel" ({ cls := "YawnRouteModel", name := "surely", desc := "(III)I" } : Jvm.MethodName) ({ cls := "YawnRouteModel", name := "surely", desc := "(III)I" } : Jvm.MethodName)) ∈ lw_gd := mem_gd rr1829.1 rfl
def rr1830 := List.forall_mem_cons.mp rr1829.2
theorem lk1830 : (Jvm.Cond.code ({ cls := "YawnRouteModel", name := "surely", desc := "(III)I" } : Jvm.MethodName) prog_14_method_101_code (7 : Nat) (Option.some Jvm.ClassFile.FieldType.int)) ∈ lw_gd := mem_gd rr1830.1 rfl
def rr1831 := List.forall_mem_cons.mp rr1830.2
theorem lk1831 : (Jvm.Cond.methodLink "YawnRouteLaw" (143 : Nat) ({ cls := "YawnRouteModel", name := "dulls", desc := "(III)I" } : Jvm.MethodName)) ∈ lw_gd := mem_gd rr1831.1 rfl
def rr1832 := List.forall_mem_cons.mp rr1831.2
theorem lk1832 : (Jvm.Cond.instanceMethod ({ cls := "YawnRouteModel", name := "dulls", desc := "(III)I" } : Jvm.MethodName)) ∈ lw_gd := mem_gd rr1832.1 rfl
def rr1833 := List.forall_mem_cons.mp rr1832.2
theorem lk1833 : (Jvm.Cond.selects "YawnRouteModel" ({ cls := "YawnRouteModel", name := "dulls", desc := "(III)I" } : Jvm.MethodName) ({ cls := "YawnRouteModel", name := "dulls", desc := "(III)I" } : Jvm.MethodName)) ∈ lw_gd := mem_gd rr1833.1 rfl
def rr1834 := List.forall_mem_cons.mp rr1833.2
theorem lk1834 : (Jvm.Cond.code ({ cls := "YawnRouteModel", name := "dulls", desc := "(III)I" } : Jvm.MethodName) prog_14_method_105_code (5 : Nat) (Option.some Jvm.ClassFile.FieldType.int)) ∈ lw_gd := mem_gd rr1834.1 rfl
def rr1835 := List.forall_mem_cons.mp rr1834.2
theorem lk1835 : (Jvm.Cond.methodLink "YawnRouteModel" (381 : Nat) ({ cls := "YawnRouteModel", name := "noDulls", desc := "(III)I" } : Jvm.MethodName)) ∈ lw_gd := mem_gd rr1835.1 rfl
def rr1836 := List.forall_mem_cons.mp rr1835.2
def rr1837 := List.forall_mem_cons.mp rr1836.2
theorem lk1837 : (Jvm.Cond.instanceMethod ({ cls := "YawnRouteModel", name := "noDulls", desc := "(III)I" } : Jvm.MethodName)) ∈ lw_gd := mem_gd rr1837.1 rfl
def rr1838 := List.forall_mem_cons.mp rr1837.2
theorem lk1838 : (Jvm.Cond.code ({ cls := "YawnRouteModel", name := "noDulls", desc := "(III)I" } : Jvm.MethodName) prog_14_method_102_code (6 : Nat) (Option.some Jvm.ClassFile.FieldType.int)) ∈ lw_gd := mem_gd rr1838.1 rfl
def rr1839 := List.forall_mem_cons.mp rr1838.2
theorem lk1839 : (Jvm.Cond.methodLink "YawnRouteModel" (384 : Nat) ({ cls := "YawnRouteModel", name := "dullsOf", desc := "(III)I" } : Jvm.MethodName)) ∈ lw_gd := mem_gd rr1839.1 rfl
def rr1840 := List.forall_mem_cons.mp rr1839.2
def rr1841 := List.forall_mem_cons.mp rr1840.2
theorem lk1841 : (Jvm.Cond.instanceMethod ({ cls := "YawnRouteModel", name := "dullsOf", desc := "(III)I" } : Jvm.MethodName)) ∈ lw_gd := mem_gd rr1841.1 rfl
def rr1842 := List.forall_mem_cons.mp rr1841.2
theorem lk1842 : (Jvm.Cond.code ({ cls := "YawnRouteModel", name := "dullsOf", desc := "(III)I" } : Jvm.MethodName) prog_14_method_104_code (7 : Nat) (Option.some Jvm.ClassFile.FieldType.int)) ∈ lw_gd := mem_gd rr1842.1 rfl
def rr1843 := List.forall_mem_cons.mp rr1842.2
theorem lk1843 : (Jvm.Cond.methodLink "YawnRouteModel" (378 : Nat) ({ cls := "YawnRouteModel", name := "toldSize", desc := "(I)I" } : Jvm.MethodName)) ∈ lw_gd := mem_gd rr1843.1 rfl
def rr1844 := List.forall_mem_cons.mp rr1843.2
def rr1845 := List.forall_mem_cons.mp rr1844.2
theorem lk1845 : (Jvm.Cond.instanceMethod ({ cls := "YawnRouteModel", name := "toldSize", desc := "(I)I" } : Jvm.MethodName)) ∈ lw_gd := mem_gd rr1845.1 rfl
def rr1846 := List.forall_mem_cons.mp rr1845.2
theorem lk1846 : (Jvm.Cond.code ({ cls := "YawnRouteModel", name := "toldSize", desc := "(I)I" } : Jvm.MethodName) prog_14_method_103_code (6 : Nat) (Option.some Jvm.ClassFile.FieldType.int)) ∈ lw_gd := mem_gd rr1846.1 rfl
def rr1847 := List.forall_mem_cons.mp rr1846.2
theorem lk1847 : (Jvm.Cond.methodLink "YawnRouteLaw" (147 : Nat) ({ cls := "YawnRouteModel", name := "attempt", desc := "(III)I" } : Jvm.MethodName)) ∈ lw_gd := mem_gd rr1847.1 rfl
def rr1848 := List.forall_mem_cons.mp rr1847.2
theorem lk1848 : (Jvm.Cond.instanceMethod ({ cls := "YawnRouteModel", name := "attempt", desc := "(III)I" } : Jvm.MethodName)) ∈ lw_gd := mem_gd rr1848.1 rfl
def rr1849 := List.forall_mem_cons.mp rr1848.2
theorem lk1849 : (Jvm.Cond.selects "YawnRouteModel" ({ cls := "YawnRouteModel", name := "attempt", desc := "(III)I" } : Jvm.MethodName) ({ cls := "YawnRouteModel", name := "attempt", desc := "(III)I" } : Jvm.MethodName)) ∈ lw_gd := mem_gd rr1849.1 rfl
def rr1850 := List.forall_mem_cons.mp rr1849.2
theorem lk1850 : (Jvm.Cond.code ({ cls := "YawnRouteModel", name := "attempt", desc := "(III)I" } : Jvm.MethodName) prog_14_method_107_code (10 : Nat) (Option.some Jvm.ClassFile.FieldType.int)) ∈ lw_gd := mem_gd rr1850.1 rfl
def rr1851 := List.forall_mem_cons.mp rr1850.2
theorem lk1851 : (Jvm.Cond.methodLink "YawnRouteModel" (387 : Nat) ({ cls := "YawnRouteModel", name := "mostOften", desc := "(IIII)I" } : Jvm.MethodName)) ∈ lw_gd := mem_gd rr1851.1 rfl
def rr1852 := List.forall_mem_cons.mp rr1851.2
def rr1853 := List.forall_mem_cons.mp rr1852.2
theorem lk1853 : (Jvm.Cond.instanceMethod ({ cls := "YawnRouteModel", name := "mostOften", desc := "(IIII)I" } : Jvm.MethodName)) ∈ lw_gd := mem_gd rr1853.1 rfl
def rr1854 := List.forall_mem_cons.mp rr1853.2
theorem lk1854 : (Jvm.Cond.code ({ cls := "YawnRouteModel", name := "mostOften", desc := "(IIII)I" } : Jvm.MethodName) prog_14_method_106_code (9 : Nat) (Option.some Jvm.ClassFile.FieldType.int)) ∈ lw_gd := mem_gd rr1854.1 rfl
def rr1855 := List.forall_mem_cons.mp rr1854.2
theorem lk1855 : (Jvm.Cond.methodLink "YawnRouteLaw" (151 : Nat) ({ cls := "YawnRouteModel", name := "forces", desc := "(I)I" } : Jvm.MethodName)) ∈ lw_gd := mem_gd rr1855.1 rfl
def rr1856 := List.forall_mem_cons.mp rr1855.2
theorem lk1856 : (Jvm.Cond.instanceMethod ({ cls := "YawnRouteModel", name := "forces", desc := "(I)I" } : Jvm.MethodName)) ∈ lw_gd := mem_gd rr1856.1 rfl
def rr1857 := List.forall_mem_cons.mp rr1856.2
theorem lk1857 : (Jvm.Cond.selects "YawnRouteModel" ({ cls := "YawnRouteModel", name := "forces", desc := "(I)I" } : Jvm.MethodName) ({ cls := "YawnRouteModel", name := "forces", desc := "(I)I" } : Jvm.MethodName)) ∈ lw_gd := mem_gd rr1857.1 rfl
def rr1858 := List.forall_mem_cons.mp rr1857.2
theorem lk1858 : (Jvm.Cond.code ({ cls := "YawnRouteModel", name := "forces", desc := "(I)I" } : Jvm.MethodName) prog_14_method_112_code (2 : Nat) (Option.some Jvm.ClassFile.FieldType.int)) ∈ lw_gd := mem_gd rr1858.1 rfl
def rr1859 := List.forall_mem_cons.mp rr1858.2
theorem lk1859 : (Jvm.Cond.methodLink "YawnRouteModel" (401 : Nat) ({ cls := "YawnRouteModel", name := "forcedIn", desc := "(I)I" } : Jvm.MethodName)) ∈ lw_gd := mem_gd rr1859.1 rfl
def rr1860 := List.forall_mem_cons.mp rr1859.2
def rr1861 := List.forall_mem_cons.mp rr1860.2
theorem lk1861 : (Jvm.Cond.instanceMethod ({ cls := "YawnRouteModel", name := "forcedIn", desc := "(I)I" } : Jvm.MethodName)) ∈ lw_gd := mem_gd rr1861.1 rfl
def rr1862 := List.forall_mem_cons.mp rr1861.2
theorem lk1862 : (Jvm.Cond.code ({ cls := "YawnRouteModel", name := "forcedIn", desc := "(I)I" } : Jvm.MethodName) prog_14_method_111_code (3 : Nat) (Option.some Jvm.ClassFile.FieldType.int)) ∈ lw_gd := mem_gd rr1862.1 rfl
def rr1863 := List.forall_mem_cons.mp rr1862.2
theorem lk1863 : (Jvm.Cond.methodLink "YawnRouteModel" (398 : Nat) ({ cls := "YawnRouteModel", name := "forcesFrom", desc := "(IIIII)Z" } : Jvm.MethodName)) ∈ lw_gd := mem_gd rr1863.1 rfl
def rr1864 := List.forall_mem_cons.mp rr1863.2
def rr1865 := List.forall_mem_cons.mp rr1864.2
theorem lk1865 : (Jvm.Cond.instanceMethod ({ cls := "YawnRouteModel", name := "forcesFrom", desc := "(IIIII)Z" } : Jvm.MethodName)) ∈ lw_gd := mem_gd rr1865.1 rfl
def rr1866 := List.forall_mem_cons.mp rr1865.2
theorem lk1866 : (Jvm.Cond.code ({ cls := "YawnRouteModel", name := "forcesFrom", desc := "(IIIII)Z" } : Jvm.MethodName) prog_14_method_108_code (7 : Nat) (Option.some Jvm.ClassFile.FieldType.boolean)) ∈ lw_gd := mem_gd rr1866.1 rfl
def rr1867 := List.forall_mem_cons.mp rr1866.2
theorem lk1867 : (Jvm.Cond.methodLink "YawnRouteModel" (390 : Nat) ({ cls := "YawnRouteModel", name := "childCant", desc := "(IIIII)Z" } : Jvm.MethodName)) ∈ lw_gd := mem_gd rr1867.1 rfl
def rr1868 := List.forall_mem_cons.mp rr1867.2
def rr1869 := List.forall_mem_cons.mp rr1868.2
theorem lk1869 : (Jvm.Cond.instanceMethod ({ cls := "YawnRouteModel", name := "childCant", desc := "(IIIII)Z" } : Jvm.MethodName)) ∈ lw_gd := mem_gd rr1869.1 rfl
def rr1870 := List.forall_mem_cons.mp rr1869.2
theorem lk1870 : (Jvm.Cond.code ({ cls := "YawnRouteModel", name := "childCant", desc := "(IIIII)Z" } : Jvm.MethodName) prog_14_method_110_code (7 : Nat) (Option.some Jvm.ClassFile.FieldType.boolean)) ∈ lw_gd := mem_gd rr1870.1 rfl
def rr1871 := List.forall_mem_cons.mp rr1870.2
theorem lk1871 : (Jvm.Cond.methodLink "YawnRouteModel" (394 : Nat) ({ cls := "YawnRouteModel", name := "forcesTo", desc := "(IIIIII)Z" } : Jvm.MethodName)) ∈ lw_gd := mem_gd rr1871.1 rfl
def rr1872 := List.forall_mem_cons.mp rr1871.2
def rr1873 := List.forall_mem_cons.mp rr1872.2
theorem lk1873 : (Jvm.Cond.instanceMethod ({ cls := "YawnRouteModel", name := "forcesTo", desc := "(IIIIII)Z" } : Jvm.MethodName)) ∈ lw_gd := mem_gd rr1873.1 rfl
def rr1874 := List.forall_mem_cons.mp rr1873.2
theorem lk1874 : (Jvm.Cond.code ({ cls := "YawnRouteModel", name := "forcesTo", desc := "(IIIIII)Z" } : Jvm.MethodName) prog_14_method_109_code (7 : Nat) (Option.some Jvm.ClassFile.FieldType.boolean)) ∈ lw_gd := mem_gd rr1874.1 rfl
def rr1875 := List.forall_mem_cons.mp rr1874.2
theorem lk1875 : (Jvm.Cond.methodLink "YawnRouteLaw" (155 : Nat) ({ cls := "YawnRouteModel", name := "best", desc := "(I)I" } : Jvm.MethodName)) ∈ lw_gd := mem_gd rr1875.1 rfl
def rr1876 := List.forall_mem_cons.mp rr1875.2
theorem lk1876 : (Jvm.Cond.instanceMethod ({ cls := "YawnRouteModel", name := "best", desc := "(I)I" } : Jvm.MethodName)) ∈ lw_gd := mem_gd rr1876.1 rfl
def rr1877 := List.forall_mem_cons.mp rr1876.2
theorem lk1877 : (Jvm.Cond.selects "YawnRouteModel" ({ cls := "YawnRouteModel", name := "best", desc := "(I)I" } : Jvm.MethodName) ({ cls := "YawnRouteModel", name := "best", desc := "(I)I" } : Jvm.MethodName)) ∈ lw_gd := mem_gd rr1877.1 rfl
def rr1878 := List.forall_mem_cons.mp rr1877.2
theorem lk1878 : (Jvm.Cond.code ({ cls := "YawnRouteModel", name := "best", desc := "(I)I" } : Jvm.MethodName) prog_14_method_113_code (4 : Nat) (Option.some Jvm.ClassFile.FieldType.int)) ∈ lw_gd := mem_gd rr1878.1 rfl
def rr1879 := List.forall_mem_cons.mp rr1878.2
theorem lk1879 : (Jvm.Cond.methodLink "YawnRouteLaw" (159 : Nat) ({ cls := "YawnRouteModel", name := "chance", desc := "(III)J" } : Jvm.MethodName)) ∈ lw_gd := mem_gd rr1879.1 rfl
def rr1880 := List.forall_mem_cons.mp rr1879.2
theorem lk1880 : (Jvm.Cond.instanceMethod ({ cls := "YawnRouteModel", name := "chance", desc := "(III)J" } : Jvm.MethodName)) ∈ lw_gd := mem_gd rr1880.1 rfl
def rr1881 := List.forall_mem_cons.mp rr1880.2
theorem lk1881 : (Jvm.Cond.selects "YawnRouteModel" ({ cls := "YawnRouteModel", name := "chance", desc := "(III)J" } : Jvm.MethodName) ({ cls := "YawnRouteModel", name := "chance", desc := "(III)J" } : Jvm.MethodName)) ∈ lw_gd := mem_gd rr1881.1 rfl
def rr1882 := List.forall_mem_cons.mp rr1881.2
theorem lk1882 : (Jvm.Cond.code ({ cls := "YawnRouteModel", name := "chance", desc := "(III)J" } : Jvm.MethodName) prog_14_method_119_code (6 : Nat) (Option.some Jvm.ClassFile.FieldType.long)) ∈ lw_gd := mem_gd rr1882.1 rfl
def rr1883 := List.forall_mem_cons.mp rr1882.2
theorem lk1883 : (Jvm.Cond.constantLong "YawnRouteModel" (411 : Nat) (-2 : Int64)) ∈ lw_gd := mem_gd rr1883.1 rfl
def rr1884 := List.forall_mem_cons.mp rr1883.2
theorem lk1884 : (Jvm.Cond.constantLong "YawnRouteModel" (413 : Nat) (6 : Int64)) ∈ lw_gd := mem_gd rr1884.1 rfl
def rr1885 := List.forall_mem_cons.mp rr1884.2
theorem lk1885 : (Jvm.Cond.constantLong "YawnRouteModel" (415 : Nat) (-3 : Int64)) ∈ lw_gd := mem_gd rr1885.1 rfl
def rr1886 := List.forall_mem_cons.mp rr1885.2
theorem lk1886 : (Jvm.Cond.constantLong "YawnRouteModel" (417 : Nat) (-5 : Int64)) ∈ lw_gd := mem_gd rr1886.1 rfl
def rr1887 := List.forall_mem_cons.mp rr1886.2
theorem lk1887 : (Jvm.Cond.methodLink "YawnRouteModel" (419 : Nat) ({ cls := "YawnRouteModel", name := "laysLikely", desc := "(I)V" } : Jvm.MethodName)) ∈ lw_gd := mem_gd rr1887.1 rfl
def rr1888 := List.forall_mem_cons.mp rr1887.2
def rr1889 := List.forall_mem_cons.mp rr1888.2
theorem lk1889 : (Jvm.Cond.instanceMethod ({ cls := "YawnRouteModel", name := "laysLikely", desc := "(I)V" } : Jvm.MethodName)) ∈ lw_gd := mem_gd rr1889.1 rfl
def rr1890 := List.forall_mem_cons.mp rr1889.2
theorem lk1890 : (Jvm.Cond.code ({ cls := "YawnRouteModel", name := "laysLikely", desc := "(I)V" } : Jvm.MethodName) prog_14_method_116_code (3 : Nat) (Option.none : Option Jvm.ClassFile.FieldType)) ∈ lw_gd := mem_gd rr1890.1 rfl
def rr1891 := List.forall_mem_cons.mp rr1890.2
theorem lk1891 : (Jvm.Cond.methodLink "YawnRouteModel" (404 : Nat) ({ cls := "YawnRouteModel", name := "drawsLot", desc := "()V" } : Jvm.MethodName)) ∈ lw_gd := mem_gd rr1891.1 rfl
def rr1892 := List.forall_mem_cons.mp rr1891.2
def rr1893 := List.forall_mem_cons.mp rr1892.2
theorem lk1893 : (Jvm.Cond.instanceMethod ({ cls := "YawnRouteModel", name := "drawsLot", desc := "()V" } : Jvm.MethodName)) ∈ lw_gd := mem_gd rr1893.1 rfl
def rr1894 := List.forall_mem_cons.mp rr1893.2
theorem lk1894 : (Jvm.Cond.code ({ cls := "YawnRouteModel", name := "drawsLot", desc := "()V" } : Jvm.MethodName) prog_14_method_115_code (6 : Nat) (Option.none : Option Jvm.ClassFile.FieldType)) ∈ lw_gd := mem_gd rr1894.1 rfl
def rr1895 := List.forall_mem_cons.mp rr1894.2
theorem lk1895 : (Jvm.Cond.methodLink "YawnRouteModel" (422 : Nat) ({ cls := "YawnRouteModel", name := "likelyAt", desc := "(I)J" } : Jvm.MethodName)) ∈ lw_gd := mem_gd rr1895.1 rfl
def rr1896 := List.forall_mem_cons.mp rr1895.2
def rr1897 := List.forall_mem_cons.mp rr1896.2
theorem lk1897 : (Jvm.Cond.instanceMethod ({ cls := "YawnRouteModel", name := "likelyAt", desc := "(I)J" } : Jvm.MethodName)) ∈ lw_gd := mem_gd rr1897.1 rfl
def rr1898 := List.forall_mem_cons.mp rr1897.2
theorem lk1898 : (Jvm.Cond.code ({ cls := "YawnRouteModel", name := "likelyAt", desc := "(I)J" } : Jvm.MethodName) prog_14_method_117_code (5 : Nat) (Option.some Jvm.ClassFile.FieldType.long)) ∈ lw_gd := mem_gd rr1898.1 rfl
def rr1899 := List.forall_mem_cons.mp rr1898.2
theorem lk1899 : (Jvm.Cond.methodLink "YawnRouteModel" (426 : Nat) ({ cls := "YawnRouteModel", name := "wholeOf", desc := "(I)J" } : Jvm.MethodName)) ∈ lw_gd := mem_gd rr1899.1 rfl
def rr1900 := List.forall_mem_cons.mp rr1899.2
theorem lk1900 : (Jvm.Cond.static ({ cls := "YawnRouteModel", name := "wholeOf", desc := "(I)J" } : Jvm.MethodName)) ∈ lw_gd := mem_gd rr1900.1 rfl
def rr1901 := List.forall_mem_cons.mp rr1900.2
theorem lk1901 : (Jvm.Cond.code ({ cls := "YawnRouteModel", name := "wholeOf", desc := "(I)J" } : Jvm.MethodName) prog_14_method_114_code (4 : Nat) (Option.some Jvm.ClassFile.FieldType.long)) ∈ lw_gd := mem_gd rr1901.1 rfl
def rr1902 := List.forall_mem_cons.mp rr1901.2
theorem lk1902 : (Jvm.Cond.methodLink "YawnRouteModel" (407 : Nat) ({ cls := "YawnRouteModel", name := "common", desc := "(JJ)J" } : Jvm.MethodName)) ∈ lw_gd := mem_gd rr1902.1 rfl
def rr1903 := List.forall_mem_cons.mp rr1902.2
theorem lk1903 : (Jvm.Cond.static ({ cls := "YawnRouteModel", name := "common", desc := "(JJ)J" } : Jvm.MethodName)) ∈ lw_gd := mem_gd rr1903.1 rfl
def rr1904 := List.forall_mem_cons.mp rr1903.2
theorem lk1904 : (Jvm.Cond.code ({ cls := "YawnRouteModel", name := "common", desc := "(JJ)J" } : Jvm.MethodName) prog_14_method_118_code (4 : Nat) (Option.some Jvm.ClassFile.FieldType.long)) ∈ lw_gd := mem_gd rr1904.1 rfl
def rr1905 := List.forall_mem_cons.mp rr1904.2
theorem lk1905 : (Jvm.Cond.methodLink "YawnRouteLaw" (163 : Nat) ({ cls := "YawnRouteModel", name := "likeliest", desc := "(I)I" } : Jvm.MethodName)) ∈ lw_gd := mem_gd rr1905.1 rfl
def rr1906 := List.forall_mem_cons.mp rr1905.2
theorem lk1906 : (Jvm.Cond.instanceMethod ({ cls := "YawnRouteModel", name := "likeliest", desc := "(I)I" } : Jvm.MethodName)) ∈ lw_gd := mem_gd rr1906.1 rfl
def rr1907 := List.forall_mem_cons.mp rr1906.2
theorem lk1907 : (Jvm.Cond.selects "YawnRouteModel" ({ cls := "YawnRouteModel", name := "likeliest", desc := "(I)I" } : Jvm.MethodName) ({ cls := "YawnRouteModel", name := "likeliest", desc := "(I)I" } : Jvm.MethodName)) ∈ lw_gd := mem_gd rr1907.1 rfl
def rr1908 := List.forall_mem_cons.mp rr1907.2
theorem lk1908 : (Jvm.Cond.code ({ cls := "YawnRouteModel", name := "likeliest", desc := "(I)I" } : Jvm.MethodName) prog_14_method_120_code (4 : Nat) (Option.some Jvm.ClassFile.FieldType.int)) ∈ lw_gd := mem_gd rr1908.1 rfl
def rr1909 := List.forall_mem_cons.mp rr1908.2
theorem lk1909 : (Jvm.Cond.methodLink "YawnRouteLaw" (167 : Nat) ({ cls := "YawnRouteModel", name := "numbers", desc := "(III)I" } : Jvm.MethodName)) ∈ lw_gd := mem_gd rr1909.1 rfl
def rr1910 := List.forall_mem_cons.mp rr1909.2
theorem lk1910 : (Jvm.Cond.instanceMethod ({ cls := "YawnRouteModel", name := "numbers", desc := "(III)I" } : Jvm.MethodName)) ∈ lw_gd := mem_gd rr1910.1 rfl
def rr1911 := List.forall_mem_cons.mp rr1910.2
theorem lk1911 : (Jvm.Cond.selects "YawnRouteModel" ({ cls := "YawnRouteModel", name := "numbers", desc := "(III)I" } : Jvm.MethodName) ({ cls := "YawnRouteModel", name := "numbers", desc := "(III)I" } : Jvm.MethodName)) ∈ lw_gd := mem_gd rr1911.1 rfl
def rr1912 := List.forall_mem_cons.mp rr1911.2
theorem lk1912 : (Jvm.Cond.code ({ cls := "YawnRouteModel", name := "numbers", desc := "(III)I" } : Jvm.MethodName) prog_14_method_122_code (5 : Nat) (Option.some Jvm.ClassFile.FieldType.int)) ∈ lw_gd := mem_gd rr1912.1 rfl
def rr1913 := List.forall_mem_cons.mp rr1912.2
theorem lk1913 : (Jvm.Cond.methodLink "YawnRouteLaw" (174 : Nat) ({ cls := "YawnRouteModel", name := "write", desc := "(IIJ)J" } : Jvm.MethodName)) ∈ lw_gd := mem_gd rr1913.1 rfl
def rr1914 := List.forall_mem_cons.mp rr1913.2
theorem lk1914 : (Jvm.Cond.instanceMethod ({ cls := "YawnRouteModel", name := "write", desc := "(IIJ)J" } : Jvm.MethodName)) ∈ lw_gd := mem_gd rr1914.1 rfl
def rr1915 := List.forall_mem_cons.mp rr1914.2
theorem lk1915 : (Jvm.Cond.selects "YawnRouteModel" ({ cls := "YawnRouteModel", name := "write", desc := "(IIJ)J" } : Jvm.MethodName) ({ cls := "YawnRouteModel", name := "write", desc := "(IIJ)J" } : Jvm.MethodName)) ∈ lw_gd := mem_gd rr1915.1 rfl
def rr1916 := List.forall_mem_cons.mp rr1915.2
theorem lk1916 : (Jvm.Cond.code ({ cls := "YawnRouteModel", name := "write", desc := "(IIJ)J" } : Jvm.MethodName) prog_14_method_123_code (6 : Nat) (Option.some Jvm.ClassFile.FieldType.long)) ∈ lw_gd := mem_gd rr1916.1 rfl
def rr1917 := List.forall_mem_cons.mp rr1916.2
theorem lk1917 : (Jvm.Cond.constantLong "YawnRouteModel" (429 : Nat) (-7 : Int64)) ∈ lw_gd := mem_gd rr1917.1 rfl
def rr1918 := List.forall_mem_cons.mp rr1917.2
theorem lk1918 : (Jvm.Cond.methodLink "YawnRouteModel" (431 : Nat) ({ cls := "YawnRouteModel", name := "cut", desc := "(JI)J" } : Jvm.MethodName)) ∈ lw_gd := mem_gd rr1918.1 rfl
def rr1919 := List.forall_mem_cons.mp rr1918.2
theorem lk1919 : (Jvm.Cond.static ({ cls := "YawnRouteModel", name := "cut", desc := "(JI)J" } : Jvm.MethodName)) ∈ lw_gd := mem_gd rr1919.1 rfl
theorem tq8 : ∀ w ∈ tables_1_9, w ∈ lw_tbl := fun w h => List.mem_append_right _ (List.mem_append_right _ (List.mem_append_right _ (List.mem_append_right _ (List.mem_append_right _ (List.mem_append_right _ (List.mem_append_right _ (List.mem_append_right _ (List.mem_append_right _ (h)))))))))
def rr1920 := List.forall_mem_cons.mp tq8
theorem lk1920 : (Jvm.Cond.code ({ cls := "YawnRouteModel", name := "cut", desc := "(JI)J" } : Jvm.MethodName) prog_14_method_121_code (3 : Nat) (Option.some Jvm.ClassFile.FieldType.long)) ∈ lw_gd := mem_gd rr1920.1 rfl
def rr1921 := List.forall_mem_cons.mp rr1920.2
theorem lk1921 : (Jvm.Cond.methodLink "YawnRouteLaw" (178 : Nat) ({ cls := "YawnRouteModel", name := "lists", desc := "(II)I" } : Jvm.MethodName)) ∈ lw_gd := mem_gd rr1921.1 rfl
def rr1922 := List.forall_mem_cons.mp rr1921.2
theorem lk1922 : (Jvm.Cond.instanceMethod ({ cls := "YawnRouteModel", name := "lists", desc := "(II)I" } : Jvm.MethodName)) ∈ lw_gd := mem_gd rr1922.1 rfl
def rr1923 := List.forall_mem_cons.mp rr1922.2
theorem lk1923 : (Jvm.Cond.selects "YawnRouteModel" ({ cls := "YawnRouteModel", name := "lists", desc := "(II)I" } : Jvm.MethodName) ({ cls := "YawnRouteModel", name := "lists", desc := "(II)I" } : Jvm.MethodName)) ∈ lw_gd := mem_gd rr1923.1 rfl
def rr1924 := List.forall_mem_cons.mp rr1923.2
theorem lk1924 : (Jvm.Cond.code ({ cls := "YawnRouteModel", name := "lists", desc := "(II)I" } : Jvm.MethodName) prog_14_method_124_code (5 : Nat) (Option.some Jvm.ClassFile.FieldType.int)) ∈ lw_gd := mem_gd rr1924.1 rfl
def rr1925 := List.forall_mem_cons.mp rr1924.2
theorem lk1925 : (Jvm.Cond.methodLink "YawnRouteLaw" (182 : Nat) ({ cls := "YawnRouteModel", name := "image", desc := "(I)I" } : Jvm.MethodName)) ∈ lw_gd := mem_gd rr1925.1 rfl
def rr1926 := List.forall_mem_cons.mp rr1925.2
theorem lk1926 : (Jvm.Cond.instanceMethod ({ cls := "YawnRouteModel", name := "image", desc := "(I)I" } : Jvm.MethodName)) ∈ lw_gd := mem_gd rr1926.1 rfl
def rr1927 := List.forall_mem_cons.mp rr1926.2
theorem lk1927 : (Jvm.Cond.selects "YawnRouteModel" ({ cls := "YawnRouteModel", name := "image", desc := "(I)I" } : Jvm.MethodName) ({ cls := "YawnRouteModel", name := "image", desc := "(I)I" } : Jvm.MethodName)) ∈ lw_gd := mem_gd rr1927.1 rfl
def rr1928 := List.forall_mem_cons.mp rr1927.2
theorem lk1928 : (Jvm.Cond.code ({ cls := "YawnRouteModel", name := "image", desc := "(I)I" } : Jvm.MethodName) prog_14_method_125_code (3 : Nat) (Option.some Jvm.ClassFile.FieldType.int)) ∈ lw_gd := mem_gd rr1928.1 rfl
def rr1929 := List.forall_mem_cons.mp rr1928.2
theorem lk1929 : (Jvm.Cond.methodLink "YawnRouteLaw" (186 : Nat) ({ cls := "YawnRouteModel", name := "restore", desc := "(I)I" } : Jvm.MethodName)) ∈ lw_gd := mem_gd rr1929.1 rfl
def rr1930 := List.forall_mem_cons.mp rr1929.2
theorem lk1930 : (Jvm.Cond.instanceMethod ({ cls := "YawnRouteModel", name := "restore", desc := "(I)I" } : Jvm.MethodName)) ∈ lw_gd := mem_gd rr1930.1 rfl
def rr1931 := List.forall_mem_cons.mp rr1930.2
theorem lk1931 : (Jvm.Cond.selects "YawnRouteModel" ({ cls := "YawnRouteModel", name := "restore", desc := "(I)I" } : Jvm.MethodName) ({ cls := "YawnRouteModel", name := "restore", desc := "(I)I" } : Jvm.MethodName)) ∈ lw_gd := mem_gd rr1931.1 rfl
def rr1932 := List.forall_mem_cons.mp rr1931.2
theorem lk1932 : (Jvm.Cond.code ({ cls := "YawnRouteModel", name := "restore", desc := "(I)I" } : Jvm.MethodName) prog_14_method_126_code (3 : Nat) (Option.some Jvm.ClassFile.FieldType.int)) ∈ lw_gd := mem_gd rr1932.1 rfl
def rr1933 := List.forall_mem_cons.mp rr1932.2
theorem lk1933 : (Jvm.Cond.methodLink "YawnRouteLaw" (190 : Nat) ({ cls := "YawnRouteModel", name := "count", desc := "(I)I" } : Jvm.MethodName)) ∈ lw_gd := mem_gd rr1933.1 rfl
def rr1934 := List.forall_mem_cons.mp rr1933.2
theorem lk1934 : (Jvm.Cond.instanceMethod ({ cls := "YawnRouteModel", name := "count", desc := "(I)I" } : Jvm.MethodName)) ∈ lw_gd := mem_gd rr1934.1 rfl
def rr1935 := List.forall_mem_cons.mp rr1934.2
theorem lk1935 : (Jvm.Cond.selects "YawnRouteModel" ({ cls := "YawnRouteModel", name := "count", desc := "(I)I" } : Jvm.MethodName) ({ cls := "YawnRouteModel", name := "count", desc := "(I)I" } : Jvm.MethodName)) ∈ lw_gd := mem_gd rr1935.1 rfl
def rr1936 := List.forall_mem_cons.mp rr1935.2
theorem lk1936 : (Jvm.Cond.code ({ cls := "YawnRouteModel", name := "count", desc := "(I)I" } : Jvm.MethodName) prog_14_method_128_code (2 : Nat) (Option.some Jvm.ClassFile.FieldType.int)) ∈ lw_gd := mem_gd rr1936.1 rfl
def rr1937 := List.forall_mem_cons.mp rr1936.2
theorem lk1937 : (Jvm.Cond.methodLink "YawnRouteModel" (435 : Nat) ({ cls := "YawnRouteModel", name := "waysAll", desc := "()I" } : Jvm.MethodName)) ∈ lw_gd := mem_gd rr1937.1 rfl
def rr1938 := List.forall_mem_cons.mp rr1937.2
def rr1939 := List.forall_mem_cons.mp rr1938.2
theorem lk1939 : (Jvm.Cond.instanceMethod ({ cls := "YawnRouteModel", name := "waysAll", desc := "()I" } : Jvm.MethodName)) ∈ lw_gd := mem_gd rr1939.1 rfl
def rr1940 := List.forall_mem_cons.mp rr1939.2
theorem lk1940 : (Jvm.Cond.code ({ cls := "YawnRouteModel", name := "waysAll", desc := "()I" } : Jvm.MethodName) prog_14_method_127_code (3 : Nat) (Option.some Jvm.ClassFile.FieldType.int)) ∈ lw_gd := mem_gd rr1940.1 rfl
def rr1941 := List.forall_mem_cons.mp rr1940.2
theorem lk1941 : (Jvm.Cond.constantLong "YawnRouteLaw" (168 : Nat) (4294967295 : Int64)) ∈ lw_gd := mem_gd rr1941.1 rfl
def rr1942 := List.forall_mem_cons.mp rr1941.2
theorem lk1942 : (Jvm.Cond.fieldLink "java/lang/String" (9 : Nat) "java/lang/String" "value" "[B") ∈ lw_gd := mem_gd rr1942.1 rfl
def rr1943 := List.forall_mem_cons.mp rr1942.2
theorem lk1943 : (Jvm.Cond.fieldLink "java/lang/String" (15 : Nat) "java/lang/String" "coder" "B") ∈ lw_gd := mem_gd rr1943.1 rfl
