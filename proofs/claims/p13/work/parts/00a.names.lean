/-! The claim's classes, in the order of their numbers: name, fields (declaring class, name, descriptor, final). Printed by wip/p1/gen6.py. -/
def ec_T0 : u_T := fun k => match k with
  | 0 => ("WarmNight$Carriage", "numbers", "[I", true)
  | 1 => ("WarmNight$Carriage", "warmth", "[I", true)
  | 2 => ("WarmNight$Carriage", "loss", "[I", true)
  | 3 => ("WarmNight$Carriage", "seats", "[I", true)
  | 4 => ("WarmNight$Carriage", "pass", "[I", true)
  | 5 => ("WarmNight$Carriage", "cold", "[I", true)
  | 6 => ("WarmNight$Carriage", "help", "[I", true)
  | 7 => ("WarmNight$Carriage", "plan", "[I", true)
  | 8 => ("WarmNight$Carriage", "home", "[I", true)
  | 9 => ("WarmNight$Carriage", "gives", "[I", true)
  | 10 => ("WarmNight$Carriage", "bears", "[I", true)
  | 11 => ("WarmNight$Carriage", "longest", "[I", true)
  | 12 => ("WarmNight$Carriage", "wet", "[I", true)
  | 13 => ("WarmNight$Carriage", "broken", "[[I", true)
  | 14 => ("WarmNight$Carriage", "people", "I", false)
  | 15 => ("WarmNight$Carriage", "breaks", "I", false)
  | 16 => ("WarmNight$Carriage", "hung", "I", false)
  | 17 => ("WarmNight$Carriage", "coated", "I", false)
  | 18 => ("WarmNight$Carriage", "opened", "I", false)
  | _ => ("WarmNight$Carriage", "changed", "Z", false)
def ec_y0 : Nat → FieldType := fun k => match k with
  | 0 => .array .int
  | 1 => .array .int
  | 2 => .array .int
  | 3 => .array .int
  | 4 => .array .int
  | 5 => .array .int
  | 6 => .array .int
  | 7 => .array .int
  | 8 => .array .int
  | 9 => .array .int
  | 10 => .array .int
  | 11 => .array .int
  | 12 => .array .int
  | 13 => .array (.array .int)
  | 14 => .int
  | 15 => .int
  | 16 => .int
  | 17 => .int
  | 18 => .int
  | _ => .boolean
def ec_T1 : u_T := fun k => match k with
  | _ => ("", "", "", false)
def ec_y1 : Nat → FieldType := fun k => match k with
  | _ => .int
def ec_T2 : u_T := fun k => match k with
  | _ => ("", "", "", false)
def ec_y2 : Nat → FieldType := fun k => match k with
  | _ => .int
def ec_T3 : u_T := fun k => match k with
  | _ => ("", "", "", false)
def ec_y3 : Nat → FieldType := fun k => match k with
  | _ => .int
def ec_T4 : u_T := fun k => match k with
  | _ => ("", "", "", false)
def ec_y4 : Nat → FieldType := fun k => match k with
  | _ => .int
def ec_T5 : u_T := fun k => match k with
  | 0 => ("WarmNight$Night", "carriage", "LWarmNight$Carriage;", true)
  | 1 => ("WarmNight$Night", "warmth", "[[I", true)
  | 2 => ("WarmNight$Night", "fuel", "[I", true)
  | 3 => ("WarmNight$Night", "worst", "[I", true)
  | 4 => ("WarmNight$Night", "falls", "[I", true)
  | 5 => ("WarmNight$Night", "burnt", "[I", true)
  | 6 => ("WarmNight$Night", "running", "[[I", true)
  | 7 => ("WarmNight$Night", "least", "[[I", true)
  | 8 => ("WarmNight$Night", "lost", "[[I", true)
  | 9 => ("WarmNight$Night", "seat", "[[I", true)
  | 10 => ("WarmNight$Night", "given", "[[I", true)
  | 11 => ("WarmNight$Night", "loss", "[[I", true)
  | 12 => ("WarmNight$Night", "pass", "[I", true)
  | 13 => ("WarmNight$Night", "flow", "[I", true)
  | 14 => ("WarmNight$Night", "need", "[I", true)
  | _ => ("WarmNight$Night", "opened", "I", false)
def ec_y5 : Nat → FieldType := fun k => match k with
  | 0 => .object "WarmNight$Carriage"
  | 1 => .array (.array .int)
  | 2 => .array .int
  | 3 => .array .int
  | 4 => .array .int
  | 5 => .array .int
  | 6 => .array (.array .int)
  | 7 => .array (.array .int)
  | 8 => .array (.array .int)
  | 9 => .array (.array .int)
  | 10 => .array (.array .int)
  | 11 => .array (.array .int)
  | 12 => .array .int
  | 13 => .array .int
  | 14 => .array .int
  | _ => .int
def ec_T6 : u_T := fun k => match k with
  | _ => ("", "", "", false)
def ec_y6 : Nat → FieldType := fun k => match k with
  | _ => .int
def ec_T7 : u_T := fun k => match k with
  | 0 => ("WarmNight$Search", "carriage", "LWarmNight$Carriage;", true)
  | 1 => ("WarmNight$Search", "night", "LWarmNight$Night;", true)
  | 2 => ("WarmNight$Search", "row", "[I", true)
  | 3 => ("WarmNight$Search", "bestRow", "[I", true)
  | 4 => ("WarmNight$Search", "bestFalls", "I", false)
  | 5 => ("WarmNight$Search", "bestPieces", "I", false)
  | _ => ("WarmNight$Search", "bestWorst", "I", false)
def ec_y7 : Nat → FieldType := fun k => match k with
  | 0 => .object "WarmNight$Carriage"
  | 1 => .object "WarmNight$Night"
  | 2 => .array .int
  | 3 => .array .int
  | 4 => .int
  | 5 => .int
  | _ => .int
def ec_T8 : u_T := fun k => match k with
  | 0 => ("WarmNight$Sharing", "carriage", "LWarmNight$Carriage;", true)
  | 1 => ("WarmNight$Sharing", "night", "LWarmNight$Night;", true)
  | 2 => ("WarmNight$Sharing", "coldest", "[I", true)
  | 3 => ("WarmNight$Sharing", "free", "[I", true)
  | 4 => ("WarmNight$Sharing", "place", "[I", true)
  | 5 => ("WarmNight$Sharing", "leastMargin", "I", false)
  | 6 => ("WarmNight$Sharing", "lost", "[[I", true)
  | _ => ("WarmNight$Sharing", "least", "[[I", true)
def ec_y8 : Nat → FieldType := fun k => match k with
  | 0 => .object "WarmNight$Carriage"
  | 1 => .object "WarmNight$Night"
  | 2 => .array .int
  | 3 => .array .int
  | 4 => .array .int
  | 5 => .int
  | 6 => .array (.array .int)
  | _ => .array (.array .int)
def ec_T9 : u_T := fun k => match k with
  | 0 => ("WarmNight$Text", "bytes", "[I", true)
  | 1 => ("WarmNight$Text", "length", "I", false)
  | 2 => ("WarmNight$Text", "words", "[I", true)
  | 3 => ("WarmNight$Text", "numbers", "[[I", true)
  | 4 => ("WarmNight$Text", "items", "I", false)
  | _ => ("WarmNight$Text", "place", "I", false)
def ec_y9 : Nat → FieldType := fun k => match k with
  | 0 => .array .int
  | 1 => .int
  | 2 => .array .int
  | 3 => .array (.array .int)
  | 4 => .int
  | _ => .int
def ec_T10 : u_T := fun k => match k with
  | _ => ("", "", "", false)
def ec_y10 : Nat → FieldType := fun k => match k with
  | _ => .int
def ec_T11 : u_T := fun k => match k with
  | 0 => ("WarmNight", "carriage", "LWarmNight$Carriage;", true)
  | 1 => ("WarmNight", "draft", "LWarmNight$Carriage;", true)
  | 2 => ("WarmNight", "images", "[LWarmNight$Carriage;", true)
  | 3 => ("WarmNight", "kept", "[Z", true)
  | 4 => ("WarmNight", "text", "LWarmNight$Text;", true)
  | 5 => ("WarmNight", "rules", "[LWarmNight$Even;", true)
  | 6 => ("WarmNight", "night", "LWarmNight$Night;", true)
  | 7 => ("WarmNight", "search", "LWarmNight$Search;", true)
  | 8 => ("WarmNight", "sharing", "LWarmNight$Sharing;", true)
  | 9 => ("WarmNight", "above", "J", false)
  | _ => ("WarmNight", "below", "J", false)
def ec_y11 : Nat → FieldType := fun k => match k with
  | 0 => .object "WarmNight$Carriage"
  | 1 => .object "WarmNight$Carriage"
  | 2 => .array (.object "WarmNight$Carriage")
  | 3 => .array .boolean
  | 4 => .object "WarmNight$Text"
  | 5 => .array (.object "WarmNight$Even")
  | 6 => .object "WarmNight$Night"
  | 7 => .object "WarmNight$Search"
  | 8 => .object "WarmNight$Sharing"
  | 9 => .long
  | _ => .long
def ec_T12 : u_T := fun k => match k with
  | 0 => ("WarmNightModel", "book", "[I", true)
  | 1 => ("WarmNightModel", "images", "[I", true)
  | 2 => ("WarmNightModel", "kept", "[Z", true)
  | 3 => ("WarmNightModel", "aside", "[I", true)
  | 4 => ("WarmNightModel", "above", "J", false)
  | 5 => ("WarmNightModel", "below", "J", false)
  | 6 => ("WarmNightModel", "text", "[I", true)
  | 7 => ("WarmNightModel", "typed", "I", false)
  | 8 => ("WarmNightModel", "at", "I", false)
  | 9 => ("WarmNightModel", "start", "I", false)
  | 10 => ("WarmNightModel", "token", "I", false)
  | 11 => ("WarmNightModel", "value", "I", false)
  | 12 => ("WarmNightModel", "verbs", "[I", true)
  | 13 => ("WarmNightModel", "nums", "[I", true)
  | 14 => ("WarmNightModel", "items", "I", false)
  | 15 => ("WarmNightModel", "warm", "[I", true)
  | 16 => ("WarmNightModel", "burnt", "[I", true)
  | 17 => ("WarmNightModel", "fuels", "[I", true)
  | 18 => ("WarmNightModel", "now", "[I", true)
  | 19 => ("WarmNightModel", "flows", "[I", true)
  | 20 => ("WarmNightModel", "worstNow", "I", false)
  | 21 => ("WarmNightModel", "fallsNow", "I", false)
  | 22 => ("WarmNightModel", "whoNow", "I", false)
  | 23 => ("WarmNightModel", "bestPlan", "[I", true)
  | 24 => ("WarmNightModel", "bestWorst", "I", false)
  | 25 => ("WarmNightModel", "hadPlan", "[I", true)
  | 26 => ("WarmNightModel", "margins", "[I", true)
  | 27 => ("WarmNightModel", "sits", "[I", true)
  | 28 => ("WarmNightModel", "used", "[I", true)
  | 29 => ("WarmNightModel", "cellBy", "[I", true)
  | 30 => ("WarmNightModel", "metMan", "[Z", true)
  | 31 => ("WarmNightModel", "metCell", "[Z", true)
  | _ => ("WarmNightModel", "row", "[I", true)
def ec_y12 : Nat → FieldType := fun k => match k with
  | 0 => .array .int
  | 1 => .array .int
  | 2 => .array .boolean
  | 3 => .array .int
  | 4 => .long
  | 5 => .long
  | 6 => .array .int
  | 7 => .int
  | 8 => .int
  | 9 => .int
  | 10 => .int
  | 11 => .int
  | 12 => .array .int
  | 13 => .array .int
  | 14 => .int
  | 15 => .array .int
  | 16 => .array .int
  | 17 => .array .int
  | 18 => .array .int
  | 19 => .array .int
  | 20 => .int
  | 21 => .int
  | 22 => .int
  | 23 => .array .int
  | 24 => .int
  | 25 => .array .int
  | 26 => .array .int
  | 27 => .array .int
  | 28 => .array .int
  | 29 => .array .int
  | 30 => .array .boolean
  | 31 => .array .boolean
  | _ => .array .int
def ec_cl : List vw_C := [("WarmNight$Carriage", ec_T0, 20), ("WarmNight$Early", ec_T1, 0), ("WarmNight$Even", ec_T2, 0), ("WarmNight$Half", ec_T3, 0), ("WarmNight$Late", ec_T4, 0), ("WarmNight$Night", ec_T5, 16), ("WarmNight$Planned", ec_T6, 0), ("WarmNight$Search", ec_T7, 7), ("WarmNight$Sharing", ec_T8, 8), ("WarmNight$Text", ec_T9, 6), ("WarmNight$Turn", ec_T10, 0), ("WarmNight", ec_T11, 11), ("WarmNightModel", ec_T12, 33)]
def ec_ty : List (Nat → FieldType) := [ec_y0, ec_y1, ec_y2, ec_y3, ec_y4, ec_y5, ec_y6, ec_y7, ec_y8, ec_y9, ec_y10, ec_y11, ec_y12]
def eg_T : List Cond := lw_tbl.filter goodWord
/-- the arrays that the classes hold from the start -/
def ec_st : List (String × String) := [("WarmNight$Carriage", "LEAST"), ("WarmNight$Carriage", "MOST"), ("WarmNight$Carriage", "AT_FIRST"), ("WarmNight$Text", "NUMBERS_OF")]
/-- links to private members of a nest mate -/
def ec_nest : List (String × Nat × MethodName × String) := [("WarmNight", 29, ⟨"WarmNight$Text", "<init>", "()V"⟩, "WarmNight"),
  ("WarmNight", 72, ⟨"WarmNight$Even", "<init>", "()V"⟩, "WarmNight"),
  ("WarmNight", 75, ⟨"WarmNight$Early", "<init>", "()V"⟩, "WarmNight"),
  ("WarmNight$Early", 1, ⟨"WarmNight$Even", "<init>", "()V"⟩, "WarmNight"),
  ("WarmNight", 78, ⟨"WarmNight$Late", "<init>", "()V"⟩, "WarmNight"),
  ("WarmNight$Late", 1, ⟨"WarmNight$Early", "<init>", "()V"⟩, "WarmNight"),
  ("WarmNight", 81, ⟨"WarmNight$Half", "<init>", "()V"⟩, "WarmNight"),
  ("WarmNight$Half", 3, ⟨"WarmNight$Even", "<init>", "()V"⟩, "WarmNight"),
  ("WarmNight", 84, ⟨"WarmNight$Turn", "<init>", "()V"⟩, "WarmNight"),
  ("WarmNight$Turn", 1, ⟨"WarmNight$Even", "<init>", "()V"⟩, "WarmNight"),
  ("WarmNight", 87, ⟨"WarmNight$Planned", "<init>", "()V"⟩, "WarmNight"),
  ("WarmNight$Planned", 1, ⟨"WarmNight$Even", "<init>", "()V"⟩, "WarmNight"),
  ("WarmNight$Carriage", 88, ⟨"WarmNight", "within", "(III)Z"⟩, "WarmNight"),
  ("WarmNight$Text", 23, ⟨"WarmNight", "within", "(III)Z"⟩, "WarmNight"),
  ("WarmNight$Search", 58, ⟨"WarmNight", "within", "(III)Z"⟩, "WarmNight"),
  ("WarmNight$Carriage", 126, ⟨"WarmNight", "mixed", "(JJ)J"⟩, "WarmNight")]
/-- which may stand in an array of Even -/
def ec_cast : List (String × String) := [("WarmNight$Early", "WarmNight$Even"), ("WarmNight$Late", "WarmNight$Even"), ("WarmNight$Half", "WarmNight$Even"), ("WarmNight$Turn", "WarmNight$Even"), ("WarmNight$Planned", "WarmNight$Even")]
