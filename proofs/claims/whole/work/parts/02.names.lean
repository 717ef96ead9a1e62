def RX0 : String := "BehindOrgan$Church"
def TX0 : u_T := fun k => match k with
  | 0 => ("BehindOrgan$Church", "yards", "[I", true)
  | 1 => ("BehindOrgan$Church", "organ", "[I", true)
  | 2 => ("BehindOrgan$Church", "neighbours", "[I", true)
  | 3 => ("BehindOrgan$Church", "habit", "[I", true)
  | 4 => ("BehindOrgan$Church", "pews", "I", false)
  | 5 => ("BehindOrgan$Church", "wait", "I", false)
  | 6 => ("BehindOrgan$Church", "lines", "I", false)
  | 7 => ("BehindOrgan$Church", "gap", "I", false)
  | _ => ("BehindOrgan$Church", "was", "[I", true)
def tyX0 : Nat → FieldType := fun k => match k with
  | 0 => .array .int
  | 1 => .array .int
  | 2 => .array .int
  | 3 => .array .int
  | 4 => .int
  | 5 => .int
  | 6 => .int
  | 7 => .int
  | _ => .array .int
theorem nmX0 : ∀ a, a < 9 → ∀ b, b < 9 → a ≠ b → (TX0 a).2.1 ≠ (TX0 b).2.1 := by decide +kernel
theorem tyX0_ok : ∀ k, k < 9 → parseFieldDescriptor (TX0 k).2.2.1 = some (tyX0 k) := by decide +kernel
def RX1 : String := "BehindOrgan$History"
def TX1 : u_T := fun k => match k with
  | 0 => ("BehindOrgan$History", "states", "[LBehindOrgan$Singing;", true)
  | 1 => ("BehindOrgan$History", "next", "I", false)
  | _ => ("BehindOrgan$History", "known", "I", false)
def tyX1 : Nat → FieldType := fun k => match k with
  | 0 => .array (.object "BehindOrgan$Singing")
  | 1 => .int
  | _ => .int
theorem nmX1 : ∀ a, a < 3 → ∀ b, b < 3 → a ≠ b → (TX1 a).2.1 ≠ (TX1 b).2.1 := by decide +kernel
theorem tyX1_ok : ∀ k, k < 3 → parseFieldDescriptor (TX1 k).2.2.1 = some (tyX1 k) := by decide +kernel
def RX2 : String := "BehindOrgan$Reader"
def TX2 : u_T := fun k => match k with
  | 0 => ("BehindOrgan$Reader", "letters", "[I", true)
  | 1 => ("BehindOrgan$Reader", "length", "I", false)
  | 2 => ("BehindOrgan$Reader", "token", "I", false)
  | 3 => ("BehindOrgan$Reader", "place", "I", false)
  | 4 => ("BehindOrgan$Reader", "number", "I", false)
  | 5 => ("BehindOrgan$Reader", "next", "I", false)
  | 6 => ("BehindOrgan$Reader", "waitTold", "Z", false)
  | 7 => ("BehindOrgan$Reader", "linesTold", "Z", false)
  | _ => ("BehindOrgan$Reader", "gapTold", "Z", false)
def tyX2 : Nat → FieldType := fun k => match k with
  | 0 => .array .int
  | 1 => .int
  | 2 => .int
  | 3 => .int
  | 4 => .int
  | 5 => .int
  | 6 => .boolean
  | 7 => .boolean
  | _ => .boolean
theorem nmX2 : ∀ a, a < 9 → ∀ b, b < 9 → a ≠ b → (TX2 a).2.1 ≠ (TX2 b).2.1 := by decide +kernel
theorem tyX2_ok : ∀ k, k < 9 → parseFieldDescriptor (TX2 k).2.2.1 = some (tyX2 k) := by decide +kernel
def RX3 : String := "BehindOrgan$Singing"
def TX3 : u_T := fun k => match k with
  | 0 => ("BehindOrgan$Singing", "late", "[I", true)
  | 1 => ("BehindOrgan$Singing", "playsAhead", "I", false)
  | 2 => ("BehindOrgan$Singing", "choirAt", "I", false)
  | 3 => ("BehindOrgan$Singing", "knowing", "I", false)
  | 4 => ("BehindOrgan$Singing", "waiting", "I", false)
  | 5 => ("BehindOrgan$Singing", "pace", "I", false)
  | _ => ("BehindOrgan$Singing", "sung", "I", false)
def tyX3 : Nat → FieldType := fun k => match k with
  | 0 => .array .int
  | 1 => .int
  | 2 => .int
  | 3 => .int
  | 4 => .int
  | 5 => .int
  | _ => .int
theorem nmX3 : ∀ a, a < 7 → ∀ b, b < 7 → a ≠ b → (TX3 a).2.1 ≠ (TX3 b).2.1 := by decide +kernel
theorem tyX3_ok : ∀ k, k < 7 → parseFieldDescriptor (TX3 k).2.2.1 = some (tyX3 k) := by decide +kernel
def RX4 : String := "BehindOrgan"
def TX4 : u_T := fun k => match k with
  | 0 => ("BehindOrgan", "reader", "LBehindOrgan$Reader;", true)
  | 1 => ("BehindOrgan", "told", "LBehindOrgan$Church;", true)
  | 2 => ("BehindOrgan", "other", "LBehindOrgan$Church;", true)
  | 3 => ("BehindOrgan", "current", "LBehindOrgan$Singing;", true)
  | 4 => ("BehindOrgan", "trial", "LBehindOrgan$Singing;", true)
  | 5 => ("BehindOrgan", "earlier", "LBehindOrgan$Singing;", true)
  | 6 => ("BehindOrgan", "history", "LBehindOrgan$History;", true)
  | 7 => ("BehindOrgan", "images", "[LBehindOrgan$Singing;", true)
  | 8 => ("BehindOrgan", "imageKept", "[Z", true)
  | 9 => ("BehindOrgan", "heardLine", "[I", true)
  | 10 => ("BehindOrgan", "heardPew", "[I", true)
  | 11 => ("BehindOrgan", "heardLate", "[I", true)
  | 12 => ("BehindOrgan", "heard", "I", false)
  | _ => ("BehindOrgan", "traced", "J", false)
def tyX4 : Nat → FieldType := fun k => match k with
  | 0 => .object "BehindOrgan$Reader"
  | 1 => .object "BehindOrgan$Church"
  | 2 => .object "BehindOrgan$Church"
  | 3 => .object "BehindOrgan$Singing"
  | 4 => .object "BehindOrgan$Singing"
  | 5 => .object "BehindOrgan$Singing"
  | 6 => .object "BehindOrgan$History"
  | 7 => .array (.object "BehindOrgan$Singing")
  | 8 => .array .boolean
  | 9 => .array .int
  | 10 => .array .int
  | 11 => .array .int
  | 12 => .int
  | _ => .long
theorem nmX4 : ∀ a, a < 14 → ∀ b, b < 14 → a ≠ b → (TX4 a).2.1 ≠ (TX4 b).2.1 := by decide +kernel
theorem tyX4_ok : ∀ k, k < 14 → parseFieldDescriptor (TX4 k).2.2.1 = some (tyX4 k) := by decide +kernel
def RX5 : String := "BehindOrganModel"
def TX5 : u_T := fun k => match k with
  | 0 => ("BehindOrganModel", "now", "[I", true)
  | 1 => ("BehindOrganModel", "past", "[I", true)
  | 2 => ("BehindOrganModel", "undos", "I", false)
  | 3 => ("BehindOrganModel", "images", "[I", true)
  | 4 => ("BehindOrganModel", "kept", "[Z", true)
  | 5 => ("BehindOrganModel", "text", "[I", true)
  | 6 => ("BehindOrganModel", "size", "I", false)
  | 7 => ("BehindOrganModel", "heard", "[I", true)
  | 8 => ("BehindOrganModel", "ears", "I", false)
  | 9 => ("BehindOrganModel", "trace", "J", false)
  | 10 => ("BehindOrganModel", "read", "[I", true)
  | 11 => ("BehindOrganModel", "at", "I", false)
  | 12 => ("BehindOrganModel", "begin", "I", false)
  | 13 => ("BehindOrganModel", "met", "I", false)
  | 14 => ("BehindOrganModel", "then", "[I", true)
  | 15 => ("BehindOrganModel", "tried", "[I", true)
  | _ => ("BehindOrganModel", "lates", "[I", true)
def tyX5 : Nat → FieldType := fun k => match k with
  | 0 => .array .int
  | 1 => .array .int
  | 2 => .int
  | 3 => .array .int
  | 4 => .array .boolean
  | 5 => .array .int
  | 6 => .int
  | 7 => .array .int
  | 8 => .int
  | 9 => .long
  | 10 => .array .int
  | 11 => .int
  | 12 => .int
  | 13 => .int
  | 14 => .array .int
  | 15 => .array .int
  | _ => .array .int
theorem nmX5 : ∀ a, a < 17 → ∀ b, b < 17 → a ≠ b → (TX5 a).2.1 ≠ (TX5 b).2.1 := by decide +kernel
theorem tyX5_ok : ∀ k, k < 17 → parseFieldDescriptor (TX5 k).2.2.1 = some (tyX5 k) := by decide +kernel
def RJ6 : String := "java/lang/Integer"
def RJ9 : String := "java/lang/Math"
def RL : String := "BehindOrganLaw"
abbrev vwCl : List vw_C := [(RX0, TX0, 9), (RX1, TX1, 3), (RX2, TX2, 9), (RX3, TX3, 7), (RX4, TX4, 14), (RX5, TX5, 17)]
/-- the words that go along: those that hold on in every warmer state -/
def WS : List Cond := lw_tbl.filter goodWord
theorem ws_sub {w : Cond} (h : w ∈ WS) : w ∈ lw_tbl := (List.mem_filter.mp h).1
theorem ws_in (i : Nat) {w : Cond} (h : tables_1[i]? = some w) (hg : goodWord w = true) : w ∈ WS := List.mem_filter.mpr ⟨List.mem_append_right _ (List.mem_of_getElem? h), hg⟩
theorem ws_1 (i : Nat) {w : Cond} (h : tables_1_1[i]? = some w) (hg : goodWord w = true) : w ∈ WS := List.mem_filter.mpr ⟨List.mem_append_right _ (List.mem_append_left _ (List.mem_of_getElem? h)), hg⟩
theorem ws_2 (i : Nat) {w : Cond} (h : tables_1_2[i]? = some w) (hg : goodWord w = true) : w ∈ WS := List.mem_filter.mpr ⟨List.mem_append_right _ (List.mem_append_right _ (List.mem_append_left _ (List.mem_of_getElem? h))), hg⟩
theorem ws_3 (i : Nat) {w : Cond} (h : tables_1_3[i]? = some w) (hg : goodWord w = true) : w ∈ WS := List.mem_filter.mpr ⟨List.mem_append_right _ (List.mem_append_right _ (List.mem_append_right _ (List.mem_append_left _ (List.mem_of_getElem? h)))), hg⟩
theorem ws_4 (i : Nat) {w : Cond} (h : tables_1_4[i]? = some w) (hg : goodWord w = true) : w ∈ WS := List.mem_filter.mpr ⟨List.mem_append_right _ (List.mem_append_right _ (List.mem_append_right _ (List.mem_append_right _ (List.mem_of_getElem? h)))), hg⟩
theorem ws_pr (i : Nat) {w : Cond} (h : (k2_sels lw_privs)[i]? = some w) (hg : goodWord w = true) : w ∈ WS := List.mem_filter.mpr ⟨List.mem_append_left _ (List.mem_of_getElem? h), hg⟩
theorem ws_all : GoodIn WS WS := fun w h => ⟨h, good_of_word (List.mem_filter.mp h).2⟩
/-- a method: its bytes, its class, its locals, what it returns, its room, its name -/
abbrev MI : Type := ByteArray × String × Nat × Option FieldType × Room × MethodName
/-- what a caller must know of a method with n parameters -/
def MOK (n : Nat) (M : MI) : Prop := Cond.code M.2.2.2.2.2 M.1 M.2.2.1 M.2.2.2.1 ∈ WS ∧ Cond.initialized M.2.2.2.2.2.cls ∈ WS ∧ (M.2.2.2.2.2.cls ≠ "java/lang/invoke/MethodHandle" ∧ M.2.2.2.2.2.cls ≠ "java/lang/invoke/VarHandle" ∧ (parseMethodDescriptor M.2.2.2.2.2.desc).map (fun d => d.parameters.length) = some n)
/-- an instance method of its own class, as a virtual call takes it -/
def MV (M : MI) : Prop := Cond.instanceMethod M.2.2.2.2.2 ∈ WS ∧ Cond.selects M.2.2.2.2.2.cls M.2.2.2.2.2 M.2.2.2.2.2 ∈ WS
def FL (own : String) (idx ci k : Nat) : Prop := ∃ q : vw_C, vwCl[ci]? = some q ∧ k < q.2.2 ∧ Cond.fieldLink own idx (q.2.1 k).1 (q.2.1 k).2.1 (q.2.1 k).2.2.1 ∈ WS
def M_Bo_init : MI := (prog_1_method_1_code, RX4, 1, none, ({ frames := 3, cells := 51, slots := 517, locals := 61 } : Room), ⟨RX4, "<init>", "()V"⟩)
def M_Re_init : MI := (prog_4_method_1_code, RX2, 1, none, ({ frames := 1, cells := 1, slots := 200, locals := 20 } : Room), ⟨RX2, "<init>", "()V"⟩)
def M_Ch_init : MI := (prog_2_method_1_code, RX0, 1, none, ({ frames := 1, cells := 5, slots := 30, locals := 20 } : Room), ⟨RX0, "<init>", "()V"⟩)
def M_Ch_empty : MI := (prog_2_method_2_code, RX0, 1, none, ({ frames := 0, cells := 0, slots := 0, locals := 0 } : Room), ⟨RX0, "empty", "()V"⟩)
def M_Si_init : MI := (prog_5_method_1_code, RX3, 1, none, ({ frames := 1, cells := 1, slots := 6, locals := 20 } : Room), ⟨RX3, "<init>", "()V"⟩)
def M_Hi_init : MI := (prog_3_method_1_code, RX1, 2, none, ({ frames := 2, cells := 21, slots := 140, locals := 40 } : Room), ⟨RX1, "<init>", "()V"⟩)
def M_Bo_type : MI := (prog_1_method_2_code, RX4, 2, (some .int), ({ frames := 1, cells := 0, slots := 0, locals := 22 } : Room), ⟨RX4, "type", "(I)I"⟩)
def M_Bo_within : MI := (prog_1_method_45_code, RX4, 3, (some .boolean), ({ frames := 0, cells := 0, slots := 0, locals := 0 } : Room), ⟨RX4, "within", "(III)Z"⟩)
def M_Re_add : MI := (prog_4_method_2_code, RX2, 2, (some .boolean), ({ frames := 0, cells := 0, slots := 0, locals := 0 } : Room), ⟨RX2, "add", "(I)Z"⟩)
def M_Bo_clear : MI := (prog_1_method_3_code, RX4, 1, (some .int), ({ frames := 1, cells := 0, slots := 0, locals := 21 } : Room), ⟨RX4, "clear", "()I"⟩)
def M_Re_empty : MI := (prog_4_method_3_code, RX2, 2, (some .int), ({ frames := 0, cells := 0, slots := 0, locals := 0 } : Room), ⟨RX2, "empty", "()I"⟩)
def M_Bo_church : MI := (prog_1_method_4_code, RX4, 2, (some .int), ({ frames := 7, cells := 0, slots := 0, locals := 149 } : Room), ⟨RX4, "church", "()I"⟩)
def M_Re_readInto : MI := (prog_4_method_4_code, RX2, 3, (some .int), ({ frames := 6, cells := 0, slots := 0, locals := 127 } : Room), ⟨RX2, "readInto", "(LBehindOrgan$Church;)I"⟩)
def M_Re_readToken : MI := (prog_4_method_12_code, RX2, 1, none, ({ frames := 2, cells := 0, slots := 0, locals := 42 } : Room), ⟨RX2, "readToken", "()V"⟩)
def M_Re_isDigit : MI := (prog_4_method_14_code, RX2, 1, (some .boolean), ({ frames := 0, cells := 0, slots := 0, locals := 0 } : Room), ⟨RX2, "isDigit", "(I)Z"⟩)
def M_Re_readDigits : MI := (prog_4_method_13_code, RX2, 3, none, ({ frames := 1, cells := 0, slots := 0, locals := 20 } : Room), ⟨RX2, "readDigits", "()V"⟩)
def M_Re_readItem : MI := (prog_4_method_5_code, RX2, 2, (some .boolean), ({ frames := 5, cells := 0, slots := 0, locals := 106 } : Room), ⟨RX2, "readItem", "(LBehindOrgan$Church;)Z"⟩)
def M_Re_readPew : MI := (prog_4_method_6_code, RX2, 3, (some .boolean), ({ frames := 4, cells := 0, slots := 0, locals := 84 } : Room), ⟨RX2, "readPew", "(LBehindOrgan$Church;)Z"⟩)
def M_Re_readNumber : MI := (prog_4_method_10_code, RX2, 3, (some .boolean), ({ frames := 3, cells := 0, slots := 0, locals := 62 } : Room), ⟨RX2, "readNumber", "(II)Z"⟩)
def M_Re_readItemEnd : MI := (prog_4_method_11_code, RX2, 1, (some .boolean), ({ frames := 3, cells := 0, slots := 0, locals := 62 } : Room), ⟨RX2, "readItemEnd", "()Z"⟩)
def M_Re_readWait : MI := (prog_4_method_7_code, RX2, 2, (some .boolean), ({ frames := 4, cells := 0, slots := 0, locals := 84 } : Room), ⟨RX2, "readWait", "(LBehindOrgan$Church;)Z"⟩)
def M_Re_readLines : MI := (prog_4_method_8_code, RX2, 2, (some .boolean), ({ frames := 4, cells := 0, slots := 0, locals := 84 } : Room), ⟨RX2, "readLines", "(LBehindOrgan$Church;)Z"⟩)
def M_Re_readGap : MI := (prog_4_method_9_code, RX2, 2, (some .boolean), ({ frames := 4, cells := 0, slots := 0, locals := 84 } : Room), ⟨RX2, "readGap", "(LBehindOrgan$Church;)Z"⟩)
def M_Ch_copyFrom : MI := (prog_2_method_6_code, RX0, 3, none, ({ frames := 1, cells := 0, slots := 0, locals := 23 } : Room), ⟨RX0, "copyFrom", "(LBehindOrgan$Church;)V"⟩)
def M_Ch_copyPew : MI := (prog_2_method_7_code, RX0, 4, none, ({ frames := 0, cells := 0, slots := 0, locals := 0 } : Room), ⟨RX0, "copyPew", "(ILBehindOrgan$Church;I)V"⟩)
def M_Bo_beginAnew : MI := (prog_1_method_5_code, RX4, 2, none, ({ frames := 1, cells := 0, slots := 0, locals := 22 } : Room), ⟨RX4, "beginAnew", "()V"⟩)
def M_Si_begin : MI := (prog_5_method_2_code, RX3, 3, none, ({ frames := 0, cells := 0, slots := 0, locals := 0 } : Room), ⟨RX3, "begin", "(I)V"⟩)
def M_Bo_pew : MI := (prog_1_method_6_code, RX4, 3, (some .int), ({ frames := 1, cells := 0, slots := 0, locals := 21 } : Room), ⟨RX4, "pew", "(II)I"⟩)
def M_Ch_has : MI := (prog_2_method_3_code, RX0, 2, (some .boolean), ({ frames := 0, cells := 0, slots := 0, locals := 0 } : Room), ⟨RX0, "has", "(I)Z"⟩)
def M_Ch_lag : MI := (prog_2_method_4_code, RX0, 2, (some .int), ({ frames := 0, cells := 0, slots := 0, locals := 0 } : Room), ⟨RX0, "lag", "(I)I"⟩)
def M_Si_isKnower : MI := (prog_5_method_4_code, RX3, 2, (some .boolean), ({ frames := 0, cells := 0, slots := 0, locals := 0 } : Room), ⟨RX3, "isKnower", "(I)Z"⟩)
def M_Bo_now : MI := (prog_1_method_7_code, RX4, 2, (some .int), ({ frames := 2, cells := 0, slots := 0, locals := 45 } : Room), ⟨RX4, "now", "(I)I"⟩)
def M_Si_apart : MI := (prog_5_method_5_code, RX3, 5, (some .int), ({ frames := 1, cells := 0, slots := 0, locals := 21 } : Room), ⟨RX3, "apart", "(I)I"⟩)
def M_Ma_max : MI := (prog_9_method_65_code, RJ9, 2, (some .int), ({ frames := 0, cells := 0, slots := 0, locals := 0 } : Room), ⟨RJ9, "max", "(II)I"⟩)
def M_Ma_min : MI := (prog_9_method_69_code, RJ9, 2, (some .int), ({ frames := 0, cells := 0, slots := 0, locals := 0 } : Room), ⟨RJ9, "min", "(II)I"⟩)
def M_Bo_line : MI := (prog_1_method_8_code, RX4, 1, (some .int), ({ frames := 5, cells := 0, slots := 0, locals := 113 } : Room), ⟨RX4, "line", "()I"⟩)
def M_Hi_remember : MI := (prog_3_method_2_code, RX1, 2, none, ({ frames := 1, cells := 0, slots := 0, locals := 22 } : Room), ⟨RX1, "remember", "(LBehindOrgan$Singing;)V"⟩)
def M_Si_copyFrom : MI := (prog_5_method_3_code, RX3, 3, none, ({ frames := 0, cells := 0, slots := 0, locals := 0 } : Room), ⟨RX3, "copyFrom", "(LBehindOrgan$Singing;)V"⟩)
def M_Ch_singLine : MI := (prog_2_method_10_code, RX0, 3, none, ({ frames := 4, cells := 0, slots := 0, locals := 91 } : Room), ⟨RX0, "singLine", "(LBehindOrgan$Singing;)V"⟩)
def M_Ch_lateBehindLine : MI := (prog_2_method_11_code, RX0, 6, (some .int), ({ frames := 3, cells := 0, slots := 0, locals := 66 } : Room), ⟨RX0, "lateBehindLine", "(ILBehindOrgan$Singing;)I"⟩)
def M_Ch_meanBeside : MI := (prog_2_method_12_code, RX0, 5, (some .int), ({ frames := 2, cells := 0, slots := 0, locals := 42 } : Room), ⟨RX0, "meanBeside", "(I)I"⟩)
def M_Ch_between : MI := (prog_2_method_5_code, RX0, 3, (some .int), ({ frames := 1, cells := 0, slots := 0, locals := 20 } : Room), ⟨RX0, "between", "(II)I"⟩)
def M_Ma_abs : MI := (prog_9_method_59_code, RJ9, 1, (some .int), ({ frames := 0, cells := 0, slots := 0, locals := 0 } : Room), ⟨RJ9, "abs", "(I)I"⟩)
def M_Bo_divided : MI := (prog_1_method_46_code, RX4, 2, (some .int), ({ frames := 0, cells := 0, slots := 0, locals := 0 } : Room), ⟨RX4, "divided", "(II)I"⟩)
def M_Ch_waitFor : MI := (prog_2_method_13_code, RX0, 5, none, ({ frames := 1, cells := 0, slots := 0, locals := 21 } : Room), ⟨RX0, "waitFor", "(LBehindOrgan$Singing;)V"⟩)
def M_Bo_verse : MI := (prog_1_method_9_code, RX4, 2, (some .int), ({ frames := 6, cells := 0, slots := 0, locals := 136 } : Room), ⟨RX4, "verse", "()I"⟩)
def M_Ch_singLines : MI := (prog_2_method_9_code, RX0, 4, none, ({ frames := 5, cells := 0, slots := 0, locals := 113 } : Room), ⟨RX0, "singLines", "(LBehindOrgan$Singing;I)V"⟩)
def M_Bo_ahead : MI := (prog_1_method_10_code, RX4, 3, (some .int), ({ frames := 2, cells := 0, slots := 0, locals := 43 } : Room), ⟨RX4, "ahead", "(I)I"⟩)
def M_Bo_choir : MI := (prog_1_method_11_code, RX4, 3, (some .int), ({ frames := 2, cells := 0, slots := 0, locals := 43 } : Room), ⟨RX4, "choir", "(I)I"⟩)
def M_Bo_knows : MI := (prog_1_method_12_code, RX4, 4, (some .int), ({ frames := 2, cells := 0, slots := 0, locals := 43 } : Room), ⟨RX4, "knows", "(II)I"⟩)
def M_In_bitCount : MI := (prog_8_method_49_code, RJ6, 1, (some .int), ({ frames := 0, cells := 0, slots := 0, locals := 0 } : Room), ⟨RJ6, "bitCount", "(I)I"⟩)
def M_Bo_waits : MI := (prog_1_method_13_code, RX4, 3, (some .int), ({ frames := 2, cells := 0, slots := 0, locals := 43 } : Room), ⟨RX4, "waits", "(I)I"⟩)
def M_Bo_undo : MI := (prog_1_method_14_code, RX4, 1, (some .int), ({ frames := 2, cells := 0, slots := 0, locals := 43 } : Room), ⟨RX4, "undo", "()I"⟩)
def M_Hi_takeBack : MI := (prog_3_method_3_code, RX1, 2, none, ({ frames := 1, cells := 0, slots := 0, locals := 22 } : Room), ⟨RX1, "takeBack", "(LBehindOrgan$Singing;)V"⟩)
def M_Bo_behind : MI := (prog_1_method_15_code, RX4, 3, (some .int), ({ frames := 6, cells := 0, slots := 0, locals := 136 } : Room), ⟨RX4, "behind", "(II)I"⟩)
def M_Bo_asleep : MI := (prog_1_method_16_code, RX4, 3, (some .int), ({ frames := 5, cells := 0, slots := 0, locals := 113 } : Room), ⟨RX4, "asleep", "(I)I"⟩)
def M_Bo_rest : MI := (prog_1_method_17_code, RX4, 2, (some .int), ({ frames := 5, cells := 0, slots := 0, locals := 113 } : Room), ⟨RX4, "rest", "()I"⟩)
def M_Si_isAsLateAs : MI := (prog_5_method_7_code, RX3, 4, (some .boolean), ({ frames := 0, cells := 0, slots := 0, locals := 0 } : Room), ⟨RX3, "isAsLateAs", "(LBehindOrgan$Singing;I)Z"⟩)
def M_Bo_playAhead : MI := (prog_1_method_18_code, RX4, 7, (some .int), ({ frames := 6, cells := 0, slots := 0, locals := 136 } : Room), ⟨RX4, "playAhead", "(II)I"⟩)
def M_Si_greatest : MI := (prog_5_method_6_code, RX3, 4, (some .int), ({ frames := 1, cells := 0, slots := 0, locals := 21 } : Room), ⟨RX3, "greatest", "(I)I"⟩)
def M_Bo_seat : MI := (prog_1_method_19_code, RX4, 7, (some .int), ({ frames := 7, cells := 0, slots := 0, locals := 158 } : Room), ⟨RX4, "seat", "(II)I"⟩)
def M_Bo_apartBySeat : MI := (prog_1_method_20_code, RX4, 3, (some .int), ({ frames := 6, cells := 0, slots := 0, locals := 136 } : Room), ⟨RX4, "apartBySeat", "(II)I"⟩)
def M_Bo_knowers : MI := (prog_1_method_21_code, RX4, 5, (some .int), ({ frames := 7, cells := 0, slots := 0, locals := 161 } : Room), ⟨RX4, "knowers", "(II)I"⟩)
def M_Bo_knowersOfSize : MI := (prog_1_method_22_code, RX4, 6, (some .int), ({ frames := 6, cells := 0, slots := 0, locals := 136 } : Room), ⟨RX4, "knowersOfSize", "(III)I"⟩)
def M_Bo_pulls : MI := (prog_1_method_23_code, RX4, 6, (some .int), ({ frames := 7, cells := 0, slots := 0, locals := 158 } : Room), ⟨RX4, "pulls", "(I)I"⟩)
def M_Bo_paceWithout : MI := (prog_1_method_24_code, RX4, 3, (some .int), ({ frames := 6, cells := 0, slots := 0, locals := 136 } : Room), ⟨RX4, "paceWithout", "(II)I"⟩)
def M_Ch_leaveOut : MI := (prog_2_method_8_code, RX0, 3, none, ({ frames := 1, cells := 0, slots := 0, locals := 23 } : Room), ⟨RX0, "leaveOut", "(I)V"⟩)
def M_Si_leaveOut : MI := (prog_5_method_8_code, RX3, 3, none, ({ frames := 1, cells := 0, slots := 0, locals := 22 } : Room), ⟨RX3, "leaveOut", "(I)V"⟩)
def M_Bo_change : MI := (prog_1_method_25_code, RX4, 7, (some .int), ({ frames := 7, cells := 0, slots := 0, locals := 159 } : Room), ⟨RX4, "change", "(I)I"⟩)
def M_Bo_apartByChange : MI := (prog_1_method_26_code, RX4, 4, (some .int), ({ frames := 6, cells := 0, slots := 0, locals := 136 } : Room), ⟨RX4, "apartByChange", "(III)I"⟩)
def M_Bo_gaps : MI := (prog_1_method_27_code, RX4, 4, (some .int), ({ frames := 6, cells := 0, slots := 0, locals := 136 } : Room), ⟨RX4, "gaps", "(I)I"⟩)
def M_Bo_hear : MI := (prog_1_method_28_code, RX4, 4, (some .int), ({ frames := 1, cells := 0, slots := 0, locals := 22 } : Room), ⟨RX4, "hear", "(III)I"⟩)
def M_Bo_forget : MI := (prog_1_method_29_code, RX4, 2, (some .int), ({ frames := 0, cells := 0, slots := 0, locals := 0 } : Room), ⟨RX4, "forget", "()I"⟩)
def M_Bo_waited : MI := (prog_1_method_30_code, RX4, 3, (some .int), ({ frames := 6, cells := 0, slots := 0, locals := 136 } : Room), ⟨RX4, "waited", "()I"⟩)
def M_Bo_isAllHeardSo : MI := (prog_1_method_31_code, RX4, 4, (some .boolean), ({ frames := 5, cells := 0, slots := 0, locals := 113 } : Room), ⟨RX4, "isAllHeardSo", "(I)Z"⟩)
def M_Bo_odds : MI := (prog_1_method_32_code, RX4, 13, (some .long), ({ frames := 6, cells := 0, slots := 0, locals := 137 } : Room), ⟨RX4, "odds", "(IIIII)J"⟩)
def M_Bo_apartByPlays : MI := (prog_1_method_33_code, RX4, 5, (some .int), ({ frames := 5, cells := 0, slots := 0, locals := 113 } : Room), ⟨RX4, "apartByPlays", "(III)I"⟩)
def M_Bo_power : MI := (prog_1_method_47_code, RX4, 5, (some .long), ({ frames := 0, cells := 0, slots := 0, locals := 0 } : Room), ⟨RX4, "power", "(II)J"⟩)
def M_Bo_commonDivisor : MI := (prog_1_method_48_code, RX4, 7, (some .long), ({ frames := 0, cells := 0, slots := 0, locals := 0 } : Room), ⟨RX4, "commonDivisor", "(JJ)J"⟩)
def M_Bo_rate : MI := (prog_1_method_34_code, RX4, 3, (some .int), ({ frames := 3, cells := 0, slots := 0, locals := 63 } : Room), ⟨RX4, "rate", "(II)I"⟩)
def M_Bo_rateFront : MI := (prog_1_method_36_code, RX4, 2, (some .int), ({ frames := 1, cells := 0, slots := 0, locals := 21 } : Room), ⟨RX4, "rateFront", "(I)I"⟩)
def M_Bo_ratePew : MI := (prog_1_method_35_code, RX4, 2, (some .int), ({ frames := 0, cells := 0, slots := 0, locals := 0 } : Room), ⟨RX4, "ratePew", "(I)I"⟩)
def M_Bo_rateBasses : MI := (prog_1_method_37_code, RX4, 2, (some .int), ({ frames := 1, cells := 0, slots := 0, locals := 21 } : Room), ⟨RX4, "rateBasses", "(I)I"⟩)
def M_Bo_rateWidows : MI := (prog_1_method_38_code, RX4, 2, (some .int), ({ frames := 2, cells := 0, slots := 0, locals := 42 } : Room), ⟨RX4, "rateWidows", "(I)I"⟩)
def M_Bo_rateBoys : MI := (prog_1_method_39_code, RX4, 2, (some .int), ({ frames := 2, cells := 0, slots := 0, locals := 42 } : Room), ⟨RX4, "rateBoys", "(I)I"⟩)
def M_Bo_rateStrangers : MI := (prog_1_method_40_code, RX4, 2, (some .int), ({ frames := 1, cells := 0, slots := 0, locals := 21 } : Room), ⟨RX4, "rateStrangers", "(I)I"⟩)
def M_Bo_keep : MI := (prog_1_method_41_code, RX4, 2, (some .int), ({ frames := 1, cells := 0, slots := 0, locals := 22 } : Room), ⟨RX4, "keep", "(I)I"⟩)
def M_Bo_back : MI := (prog_1_method_42_code, RX4, 2, (some .int), ({ frames := 1, cells := 0, slots := 0, locals := 22 } : Room), ⟨RX4, "back", "(I)I"⟩)
def M_Bo_count : MI := (prog_1_method_43_code, RX4, 2, (some .int), ({ frames := 0, cells := 0, slots := 0, locals := 0 } : Room), ⟨RX4, "count", "(I)I"⟩)
def M_Bo_trace : MI := (prog_1_method_44_code, RX4, 1, (some .long), ({ frames := 0, cells := 0, slots := 0, locals := 0 } : Room), ⟨RX4, "trace", "()J"⟩)
def M_Mo_init : MI := (prog_7_method_1_code, RX5, 1, none, ({ frames := 1, cells := 10, slots := 817, locals := 21 } : Room), ⟨RX5, "<init>", "()V"⟩)
def M_Mo_clean : MI := (prog_7_method_5_code, RX5, 2, none, ({ frames := 0, cells := 0, slots := 0, locals := 0 } : Room), ⟨RX5, "clean", "([I)V"⟩)
def M_Mo_type : MI := (prog_7_method_6_code, RX5, 2, (some .int), ({ frames := 1, cells := 0, slots := 0, locals := 25 } : Room), ⟨RX5, "type", "(I)I"⟩)
def M_Mo_in : MI := (prog_7_method_3_code, RX5, 6, (some .boolean), ({ frames := 0, cells := 0, slots := 0, locals := 0 } : Room), ⟨RX5, "in", "(JJJ)Z"⟩)
def M_Mo_clear : MI := (prog_7_method_7_code, RX5, 2, (some .int), ({ frames := 0, cells := 0, slots := 0, locals := 0 } : Room), ⟨RX5, "clear", "()I"⟩)
def M_Mo_church : MI := (prog_7_method_14_code, RX5, 3, (some .int), ({ frames := 4, cells := 0, slots := 0, locals := 94 } : Room), ⟨RX5, "church", "()I"⟩)
def M_Mo_first : MI := (prog_7_method_8_code, RX5, 1, (some .int), ({ frames := 0, cells := 0, slots := 0, locals := 0 } : Room), ⟨RX5, "first", "()I"⟩)
def M_Mo_takesItem : MI := (prog_7_method_13_code, RX5, 2, (some .boolean), ({ frames := 3, cells := 0, slots := 0, locals := 73 } : Room), ⟨RX5, "takesItem", "(I)Z"⟩)
def M_Mo_takesPew : MI := (prog_7_method_11_code, RX5, 2, (some .boolean), ({ frames := 2, cells := 0, slots := 0, locals := 50 } : Room), ⟨RX5, "takesPew", "()Z"⟩)
def M_Mo_number : MI := (prog_7_method_9_code, RX5, 6, (some .boolean), ({ frames := 1, cells := 0, slots := 0, locals := 25 } : Room), ⟨RX5, "number", "(III)Z"⟩)
def M_Mo_ends : MI := (prog_7_method_10_code, RX5, 1, (some .boolean), ({ frames := 1, cells := 0, slots := 0, locals := 20 } : Room), ⟨RX5, "ends", "()Z"⟩)
def M_Mo_takesOne : MI := (prog_7_method_12_code, RX5, 4, (some .boolean), ({ frames := 2, cells := 0, slots := 0, locals := 50 } : Room), ⟨RX5, "takesOne", "(III)Z"⟩)
def M_Mo_copies : MI := (prog_7_method_15_code, RX5, 5, none, ({ frames := 0, cells := 0, slots := 0, locals := 0 } : Room), ⟨RX5, "copies", "([II[II)V"⟩)
def M_Mo_pew : MI := (prog_7_method_17_code, RX5, 3, (some .int), ({ frames := 2, cells := 0, slots := 0, locals := 46 } : Room), ⟨RX5, "pew", "(II)I"⟩)
def M_Mo_isPew : MI := (prog_7_method_16_code, RX5, 2, (some .boolean), ({ frames := 1, cells := 0, slots := 0, locals := 25 } : Room), ⟨RX5, "isPew", "(I)Z"⟩)
def M_Mo_now : MI := (prog_7_method_19_code, RX5, 2, (some .int), ({ frames := 1, cells := 0, slots := 0, locals := 24 } : Room), ⟨RX5, "now", "(I)I"⟩)
def M_Mo_apart : MI := (prog_7_method_18_code, RX5, 5, (some .int), ({ frames := 0, cells := 0, slots := 0, locals := 0 } : Room), ⟨RX5, "apart", "([I)I"⟩)
def M_Mo_line : MI := (prog_7_method_25_code, RX5, 1, (some .int), ({ frames := 3, cells := 0, slots := 0, locals := 75 } : Room), ⟨RX5, "line", "()I"⟩)
def M_Mo_remember : MI := (prog_7_method_24_code, RX5, 2, none, ({ frames := 1, cells := 0, slots := 0, locals := 24 } : Room), ⟨RX5, "remember", "()V"⟩)
def M_Mo_sings : MI := (prog_7_method_22_code, RX5, 6, none, ({ frames := 2, cells := 0, slots := 0, locals := 50 } : Room), ⟨RX5, "sings", "([I)V"⟩)
def M_Mo_lateThen : MI := (prog_7_method_21_code, RX5, 8, (some .int), ({ frames := 1, cells := 0, slots := 0, locals := 23 } : Room), ⟨RX5, "lateThen", "([II)I"⟩)
def M_Mo_from : MI := (prog_7_method_20_code, RX5, 4, (some .int), ({ frames := 0, cells := 0, slots := 0, locals := 0 } : Room), ⟨RX5, "from", "([III)I"⟩)
def M_Mo_verse : MI := (prog_7_method_26_code, RX5, 2, (some .int), ({ frames := 3, cells := 0, slots := 0, locals := 75 } : Room), ⟨RX5, "verse", "()I"⟩)
def M_Mo_rests : MI := (prog_7_method_23_code, RX5, 3, none, ({ frames := 0, cells := 0, slots := 0, locals := 0 } : Room), ⟨RX5, "rests", "([II)V"⟩)
def M_Mo_ahead : MI := (prog_7_method_28_code, RX5, 2, (some .int), ({ frames := 3, cells := 0, slots := 0, locals := 68 } : Room), ⟨RX5, "ahead", "(I)I"⟩)
def M_Mo_puts : MI := (prog_7_method_27_code, RX5, 4, (some .int), ({ frames := 2, cells := 0, slots := 0, locals := 45 } : Room), ⟨RX5, "puts", "(II)I"⟩)
def M_Mo_choir : MI := (prog_7_method_29_code, RX5, 3, (some .int), ({ frames := 3, cells := 0, slots := 0, locals := 68 } : Room), ⟨RX5, "choir", "(I)I"⟩)
def M_Mo_knows : MI := (prog_7_method_31_code, RX5, 4, (some .int), ({ frames := 3, cells := 0, slots := 0, locals := 68 } : Room), ⟨RX5, "knows", "(II)I"⟩)
def M_Mo_isTwo : MI := (prog_7_method_4_code, RX5, 1, (some .boolean), ({ frames := 1, cells := 0, slots := 0, locals := 25 } : Room), ⟨RX5, "isTwo", "(I)Z"⟩)
def M_Mo_bits : MI := (prog_7_method_30_code, RX5, 3, (some .int), ({ frames := 0, cells := 0, slots := 0, locals := 0 } : Room), ⟨RX5, "bits", "(I)I"⟩)
def M_Mo_waits : MI := (prog_7_method_32_code, RX5, 2, (some .int), ({ frames := 3, cells := 0, slots := 0, locals := 68 } : Room), ⟨RX5, "waits", "(I)I"⟩)
def M_Mo_undo : MI := (prog_7_method_33_code, RX5, 1, (some .int), ({ frames := 1, cells := 0, slots := 0, locals := 24 } : Room), ⟨RX5, "undo", "()I"⟩)
def M_Mo_behind : MI := (prog_7_method_36_code, RX5, 3, (some .int), ({ frames := 4, cells := 0, slots := 0, locals := 97 } : Room), ⟨RX5, "behind", "(II)I"⟩)
def M_Mo_asNow : MI := (prog_7_method_34_code, RX5, 1, none, ({ frames := 1, cells := 0, slots := 0, locals := 24 } : Room), ⟨RX5, "asNow", "()V"⟩)
def M_Mo_go : MI := (prog_7_method_35_code, RX5, 3, none, ({ frames := 3, cells := 0, slots := 0, locals := 75 } : Room), ⟨RX5, "go", "(I)V"⟩)
def M_Mo_asleep : MI := (prog_7_method_37_code, RX5, 3, (some .int), ({ frames := 4, cells := 0, slots := 0, locals := 97 } : Room), ⟨RX5, "asleep", "(I)I"⟩)
def M_Mo_rest : MI := (prog_7_method_38_code, RX5, 4, (some .int), ({ frames := 4, cells := 0, slots := 0, locals := 97 } : Room), ⟨RX5, "rest", "()I"⟩)
def M_Mo_playAhead : MI := (prog_7_method_41_code, RX5, 7, (some .int), ({ frames := 4, cells := 0, slots := 0, locals := 97 } : Room), ⟨RX5, "playAhead", "(II)I"⟩)
def M_Mo_isSpan : MI := (prog_7_method_39_code, RX5, 1, (some .boolean), ({ frames := 1, cells := 0, slots := 0, locals := 25 } : Room), ⟨RX5, "isSpan", "(I)Z"⟩)
def M_Mo_greatest : MI := (prog_7_method_40_code, RX5, 4, (some .int), ({ frames := 0, cells := 0, slots := 0, locals := 0 } : Room), ⟨RX5, "greatest", "([I)I"⟩)
def M_Mo_seat : MI := (prog_7_method_42_code, RX5, 7, (some .int), ({ frames := 4, cells := 0, slots := 0, locals := 97 } : Room), ⟨RX5, "seat", "(II)I"⟩)
def M_Mo_knowers : MI := (prog_7_method_43_code, RX5, 6, (some .int), ({ frames := 4, cells := 0, slots := 0, locals := 97 } : Room), ⟨RX5, "knowers", "(II)I"⟩)
def M_Mo_pulls : MI := (prog_7_method_45_code, RX5, 5, (some .int), ({ frames := 4, cells := 0, slots := 0, locals := 97 } : Room), ⟨RX5, "pulls", "(I)I"⟩)
def M_Mo_without : MI := (prog_7_method_44_code, RX5, 4, none, ({ frames := 2, cells := 0, slots := 0, locals := 44 } : Room), ⟨RX5, "without", "(I)V"⟩)
def M_Mo_change : MI := (prog_7_method_46_code, RX5, 7, (some .int), ({ frames := 4, cells := 0, slots := 0, locals := 97 } : Room), ⟨RX5, "change", "(I)I"⟩)
def M_Mo_gaps : MI := (prog_7_method_47_code, RX5, 3, (some .int), ({ frames := 4, cells := 0, slots := 0, locals := 97 } : Room), ⟨RX5, "gaps", "(I)I"⟩)
def M_Mo_hear : MI := (prog_7_method_48_code, RX5, 4, (some .int), ({ frames := 2, cells := 0, slots := 0, locals := 46 } : Room), ⟨RX5, "hear", "(III)I"⟩)
def M_Mo_forget : MI := (prog_7_method_49_code, RX5, 2, (some .int), ({ frames := 0, cells := 0, slots := 0, locals := 0 } : Room), ⟨RX5, "forget", "()I"⟩)
def M_Mo_waited : MI := (prog_7_method_51_code, RX5, 3, (some .int), ({ frames := 5, cells := 0, slots := 0, locals := 120 } : Room), ⟨RX5, "waited", "()I"⟩)
def M_Mo_isSo : MI := (prog_7_method_50_code, RX5, 4, (some .boolean), ({ frames := 4, cells := 0, slots := 0, locals := 97 } : Room), ⟨RX5, "isSo", "(I)Z"⟩)
def M_Mo_odds : MI := (prog_7_method_52_code, RX5, 16, (some .long), ({ frames := 4, cells := 0, slots := 0, locals := 97 } : Room), ⟨RX5, "odds", "(IIIII)J"⟩)
def M_Mo_rate : MI := (prog_7_method_53_code, RX5, 4, (some .int), ({ frames := 2, cells := 0, slots := 0, locals := 46 } : Room), ⟨RX5, "rate", "(II)I"⟩)
def M_Mo_keep : MI := (prog_7_method_54_code, RX5, 2, (some .int), ({ frames := 2, cells := 0, slots := 0, locals := 45 } : Room), ⟨RX5, "keep", "(I)I"⟩)
def M_Mo_back : MI := (prog_7_method_55_code, RX5, 2, (some .int), ({ frames := 2, cells := 0, slots := 0, locals := 45 } : Room), ⟨RX5, "back", "(I)I"⟩)
def M_Mo_count : MI := (prog_7_method_56_code, RX5, 2, (some .int), ({ frames := 0, cells := 0, slots := 0, locals := 0 } : Room), ⟨RX5, "count", "(I)I"⟩)
def M_Mo_trace : MI := (prog_7_method_57_code, RX5, 1, (some .long), ({ frames := 0, cells := 0, slots := 0, locals := 0 } : Room), ⟨RX5, "trace", "()J"⟩)
def M_La_law : MI := (code, RL, 4, (some .boolean), ({ frames := 10, cells := 600000, slots := 7302250, locals := 374 } : Room), ⟨RL, "law", "([I)Z"⟩)
theorem ok_Bo_init : MOK 0 M_Bo_init := ⟨ws_1 13 rfl rfl, ws_1 1 rfl rfl, by decide +kernel, by decide +kernel, by decide +kernel⟩
theorem im_Bo_init : Cond.instanceMethod M_Bo_init.2.2.2.2.2 ∈ WS := ws_1 12 rfl rfl
theorem ok_Re_init : MOK 0 M_Re_init := ⟨ws_1 21 rfl rfl, ws_1 2 rfl rfl, by decide +kernel, by decide +kernel, by decide +kernel⟩
theorem im_Re_init : Cond.instanceMethod M_Re_init.2.2.2.2.2 ∈ WS := ws_1 20 rfl rfl
theorem ok_Ch_init : MOK 0 M_Ch_init := ⟨ws_1 57 rfl rfl, ws_1 3 rfl rfl, by decide +kernel, by decide +kernel, by decide +kernel⟩
theorem im_Ch_init : Cond.instanceMethod M_Ch_init.2.2.2.2.2 ∈ WS := ws_1 56 rfl rfl
theorem ok_Ch_empty : MOK 0 M_Ch_empty := ⟨ws_1 62 rfl rfl, ws_1 3 rfl rfl, by decide +kernel, by decide +kernel, by decide +kernel⟩
theorem mv_Ch_empty : MV M_Ch_empty := ⟨ws_1 60 rfl rfl, ws_1 61 rfl rfl⟩
theorem ok_Si_init : MOK 0 M_Si_init := ⟨ws_1 111 rfl rfl, ws_1 4 rfl rfl, by decide +kernel, by decide +kernel, by decide +kernel⟩
theorem im_Si_init : Cond.instanceMethod M_Si_init.2.2.2.2.2 ∈ WS := ws_1 110 rfl rfl
theorem ok_Hi_init : MOK 0 M_Hi_init := ⟨ws_1 153 rfl rfl, ws_1 5 rfl rfl, by decide +kernel, by decide +kernel, by decide +kernel⟩
theorem im_Hi_init : Cond.instanceMethod M_Hi_init.2.2.2.2.2 ∈ WS := ws_1 152 rfl rfl
theorem ok_Bo_type : MOK 1 M_Bo_type := ⟨ws_1 216 rfl rfl, ws_1 1 rfl rfl, by decide +kernel, by decide +kernel, by decide +kernel⟩
theorem mv_Bo_type : MV M_Bo_type := ⟨ws_1 214 rfl rfl, ws_1 215 rfl rfl⟩
theorem ok_Bo_within : MOK 3 M_Bo_within := ⟨ws_1 219 rfl rfl, ws_1 1 rfl rfl, by decide +kernel, by decide +kernel, by decide +kernel⟩
theorem st_Bo_within : Cond.static M_Bo_within.2.2.2.2.2 ∈ WS := ws_1 218 rfl rfl
theorem ok_Re_add : MOK 1 M_Re_add := ⟨ws_1 224 rfl rfl, ws_1 2 rfl rfl, by decide +kernel, by decide +kernel, by decide +kernel⟩
theorem mv_Re_add : MV M_Re_add := ⟨ws_1 222 rfl rfl, ws_1 223 rfl rfl⟩
theorem ok_Bo_clear : MOK 0 M_Bo_clear := ⟨ws_1 229 rfl rfl, ws_1 1 rfl rfl, by decide +kernel, by decide +kernel, by decide +kernel⟩
theorem mv_Bo_clear : MV M_Bo_clear := ⟨ws_1 227 rfl rfl, ws_1 228 rfl rfl⟩
theorem ok_Re_empty : MOK 0 M_Re_empty := ⟨ws_1 233 rfl rfl, ws_1 2 rfl rfl, by decide +kernel, by decide +kernel, by decide +kernel⟩
theorem mv_Re_empty : MV M_Re_empty := ⟨ws_1 231 rfl rfl, ws_1 232 rfl rfl⟩
theorem ok_Bo_church : MOK 0 M_Bo_church := ⟨ws_1 237 rfl rfl, ws_1 1 rfl rfl, by decide +kernel, by decide +kernel, by decide +kernel⟩
theorem mv_Bo_church : MV M_Bo_church := ⟨ws_1 235 rfl rfl, ws_1 236 rfl rfl⟩
theorem ok_Re_readInto : MOK 1 M_Re_readInto := ⟨ws_2 1 rfl rfl, ws_1 2 rfl rfl, by decide +kernel, by decide +kernel, by decide +kernel⟩
theorem mv_Re_readInto : MV M_Re_readInto := ⟨ws_1 239 rfl rfl, ws_2 0 rfl rfl⟩
theorem ok_Re_readToken : MOK 0 M_Re_readToken := ⟨ws_2 6 rfl rfl, ws_1 2 rfl rfl, by decide +kernel, by decide +kernel, by decide +kernel⟩
theorem mv_Re_readToken : MV M_Re_readToken := ⟨ws_2 5 rfl rfl, ws_pr 0 rfl rfl⟩
theorem ok_Re_isDigit : MOK 1 M_Re_isDigit := ⟨ws_2 9 rfl rfl, ws_1 2 rfl rfl, by decide +kernel, by decide +kernel, by decide +kernel⟩
theorem st_Re_isDigit : Cond.static M_Re_isDigit.2.2.2.2.2 ∈ WS := ws_2 8 rfl rfl
theorem ok_Re_readDigits : MOK 0 M_Re_readDigits := ⟨ws_2 13 rfl rfl, ws_1 2 rfl rfl, by decide +kernel, by decide +kernel, by decide +kernel⟩
theorem mv_Re_readDigits : MV M_Re_readDigits := ⟨ws_2 12 rfl rfl, ws_pr 1 rfl rfl⟩
theorem ok_Re_readItem : MOK 1 M_Re_readItem := ⟨ws_2 17 rfl rfl, ws_1 2 rfl rfl, by decide +kernel, by decide +kernel, by decide +kernel⟩
theorem mv_Re_readItem : MV M_Re_readItem := ⟨ws_2 16 rfl rfl, ws_pr 2 rfl rfl⟩
theorem ok_Re_readPew : MOK 1 M_Re_readPew := ⟨ws_2 21 rfl rfl, ws_1 2 rfl rfl, by decide +kernel, by decide +kernel, by decide +kernel⟩
theorem mv_Re_readPew : MV M_Re_readPew := ⟨ws_2 20 rfl rfl, ws_pr 3 rfl rfl⟩
theorem ok_Re_readNumber : MOK 2 M_Re_readNumber := ⟨ws_2 25 rfl rfl, ws_1 2 rfl rfl, by decide +kernel, by decide +kernel, by decide +kernel⟩
theorem mv_Re_readNumber : MV M_Re_readNumber := ⟨ws_2 24 rfl rfl, ws_pr 4 rfl rfl⟩
theorem ok_Re_readItemEnd : MOK 0 M_Re_readItemEnd := ⟨ws_2 30 rfl rfl, ws_1 2 rfl rfl, by decide +kernel, by decide +kernel, by decide +kernel⟩
theorem mv_Re_readItemEnd : MV M_Re_readItemEnd := ⟨ws_2 29 rfl rfl, ws_pr 5 rfl rfl⟩
theorem ok_Re_readWait : MOK 1 M_Re_readWait := ⟨ws_2 34 rfl rfl, ws_1 2 rfl rfl, by decide +kernel, by decide +kernel, by decide +kernel⟩
theorem mv_Re_readWait : MV M_Re_readWait := ⟨ws_2 33 rfl rfl, ws_pr 6 rfl rfl⟩
theorem ok_Re_readLines : MOK 1 M_Re_readLines := ⟨ws_2 38 rfl rfl, ws_1 2 rfl rfl, by decide +kernel, by decide +kernel, by decide +kernel⟩
theorem mv_Re_readLines : MV M_Re_readLines := ⟨ws_2 37 rfl rfl, ws_pr 7 rfl rfl⟩
theorem ok_Re_readGap : MOK 1 M_Re_readGap := ⟨ws_2 42 rfl rfl, ws_1 2 rfl rfl, by decide +kernel, by decide +kernel, by decide +kernel⟩
theorem mv_Re_readGap : MV M_Re_readGap := ⟨ws_2 41 rfl rfl, ws_pr 8 rfl rfl⟩
theorem ok_Ch_copyFrom : MOK 1 M_Ch_copyFrom := ⟨ws_2 46 rfl rfl, ws_1 3 rfl rfl, by decide +kernel, by decide +kernel, by decide +kernel⟩
theorem mv_Ch_copyFrom : MV M_Ch_copyFrom := ⟨ws_2 44 rfl rfl, ws_2 45 rfl rfl⟩
theorem ok_Ch_copyPew : MOK 3 M_Ch_copyPew := ⟨ws_2 50 rfl rfl, ws_1 3 rfl rfl, by decide +kernel, by decide +kernel, by decide +kernel⟩
theorem mv_Ch_copyPew : MV M_Ch_copyPew := ⟨ws_2 49 rfl rfl, ws_pr 9 rfl rfl⟩
theorem ok_Bo_beginAnew : MOK 0 M_Bo_beginAnew := ⟨ws_2 54 rfl rfl, ws_1 1 rfl rfl, by decide +kernel, by decide +kernel, by decide +kernel⟩
theorem mv_Bo_beginAnew : MV M_Bo_beginAnew := ⟨ws_2 53 rfl rfl, ws_pr 10 rfl rfl⟩
theorem ok_Si_begin : MOK 1 M_Si_begin := ⟨ws_2 58 rfl rfl, ws_1 4 rfl rfl, by decide +kernel, by decide +kernel, by decide +kernel⟩
theorem mv_Si_begin : MV M_Si_begin := ⟨ws_2 56 rfl rfl, ws_2 57 rfl rfl⟩
theorem ok_Bo_pew : MOK 2 M_Bo_pew := ⟨ws_2 62 rfl rfl, ws_1 1 rfl rfl, by decide +kernel, by decide +kernel, by decide +kernel⟩
theorem mv_Bo_pew : MV M_Bo_pew := ⟨ws_2 60 rfl rfl, ws_2 61 rfl rfl⟩
theorem ok_Ch_has : MOK 1 M_Ch_has := ⟨ws_2 66 rfl rfl, ws_1 3 rfl rfl, by decide +kernel, by decide +kernel, by decide +kernel⟩
theorem mv_Ch_has : MV M_Ch_has := ⟨ws_2 64 rfl rfl, ws_2 65 rfl rfl⟩
theorem ok_Ch_lag : MOK 1 M_Ch_lag := ⟨ws_2 70 rfl rfl, ws_1 3 rfl rfl, by decide +kernel, by decide +kernel, by decide +kernel⟩
theorem mv_Ch_lag : MV M_Ch_lag := ⟨ws_2 68 rfl rfl, ws_2 69 rfl rfl⟩
theorem ok_Si_isKnower : MOK 1 M_Si_isKnower := ⟨ws_2 74 rfl rfl, ws_1 4 rfl rfl, by decide +kernel, by decide +kernel, by decide +kernel⟩
theorem mv_Si_isKnower : MV M_Si_isKnower := ⟨ws_2 72 rfl rfl, ws_2 73 rfl rfl⟩
theorem ok_Bo_now : MOK 1 M_Bo_now := ⟨ws_2 78 rfl rfl, ws_1 1 rfl rfl, by decide +kernel, by decide +kernel, by decide +kernel⟩
theorem mv_Bo_now : MV M_Bo_now := ⟨ws_2 76 rfl rfl, ws_2 77 rfl rfl⟩
theorem ok_Si_apart : MOK 1 M_Si_apart := ⟨ws_2 82 rfl rfl, ws_1 4 rfl rfl, by decide +kernel, by decide +kernel, by decide +kernel⟩
theorem mv_Si_apart : MV M_Si_apart := ⟨ws_2 80 rfl rfl, ws_2 81 rfl rfl⟩
theorem ok_Ma_max : MOK 2 M_Ma_max := ⟨ws_2 85 rfl rfl, ws_1 7 rfl rfl, by decide +kernel, by decide +kernel, by decide +kernel⟩
theorem st_Ma_max : Cond.static M_Ma_max.2.2.2.2.2 ∈ WS := ws_2 84 rfl rfl
theorem ok_Ma_min : MOK 2 M_Ma_min := ⟨ws_2 88 rfl rfl, ws_1 7 rfl rfl, by decide +kernel, by decide +kernel, by decide +kernel⟩
theorem st_Ma_min : Cond.static M_Ma_min.2.2.2.2.2 ∈ WS := ws_2 87 rfl rfl
theorem ok_Bo_line : MOK 0 M_Bo_line := ⟨ws_2 92 rfl rfl, ws_1 1 rfl rfl, by decide +kernel, by decide +kernel, by decide +kernel⟩
theorem mv_Bo_line : MV M_Bo_line := ⟨ws_2 90 rfl rfl, ws_2 91 rfl rfl⟩
theorem ok_Hi_remember : MOK 1 M_Hi_remember := ⟨ws_2 97 rfl rfl, ws_1 5 rfl rfl, by decide +kernel, by decide +kernel, by decide +kernel⟩
theorem mv_Hi_remember : MV M_Hi_remember := ⟨ws_2 95 rfl rfl, ws_2 96 rfl rfl⟩
theorem ok_Si_copyFrom : MOK 1 M_Si_copyFrom := ⟨ws_2 101 rfl rfl, ws_1 4 rfl rfl, by decide +kernel, by decide +kernel, by decide +kernel⟩
theorem mv_Si_copyFrom : MV M_Si_copyFrom := ⟨ws_2 99 rfl rfl, ws_2 100 rfl rfl⟩
theorem ok_Ch_singLine : MOK 1 M_Ch_singLine := ⟨ws_2 106 rfl rfl, ws_1 3 rfl rfl, by decide +kernel, by decide +kernel, by decide +kernel⟩
theorem mv_Ch_singLine : MV M_Ch_singLine := ⟨ws_2 104 rfl rfl, ws_2 105 rfl rfl⟩
theorem ok_Ch_lateBehindLine : MOK 2 M_Ch_lateBehindLine := ⟨ws_2 110 rfl rfl, ws_1 3 rfl rfl, by decide +kernel, by decide +kernel, by decide +kernel⟩
theorem mv_Ch_lateBehindLine : MV M_Ch_lateBehindLine := ⟨ws_2 109 rfl rfl, ws_pr 11 rfl rfl⟩
theorem ok_Ch_meanBeside : MOK 1 M_Ch_meanBeside := ⟨ws_2 115 rfl rfl, ws_1 3 rfl rfl, by decide +kernel, by decide +kernel, by decide +kernel⟩
theorem mv_Ch_meanBeside : MV M_Ch_meanBeside := ⟨ws_2 114 rfl rfl, ws_pr 12 rfl rfl⟩
theorem ok_Ch_between : MOK 2 M_Ch_between := ⟨ws_2 120 rfl rfl, ws_1 3 rfl rfl, by decide +kernel, by decide +kernel, by decide +kernel⟩
theorem mv_Ch_between : MV M_Ch_between := ⟨ws_2 119 rfl rfl, ws_pr 13 rfl rfl⟩
theorem ok_Ma_abs : MOK 1 M_Ma_abs := ⟨ws_2 123 rfl rfl, ws_1 7 rfl rfl, by decide +kernel, by decide +kernel, by decide +kernel⟩
theorem st_Ma_abs : Cond.static M_Ma_abs.2.2.2.2.2 ∈ WS := ws_2 122 rfl rfl
theorem ok_Bo_divided : MOK 2 M_Bo_divided := ⟨ws_2 126 rfl rfl, ws_1 1 rfl rfl, by decide +kernel, by decide +kernel, by decide +kernel⟩
theorem st_Bo_divided : Cond.static M_Bo_divided.2.2.2.2.2 ∈ WS := ws_2 125 rfl rfl
theorem ok_Ch_waitFor : MOK 1 M_Ch_waitFor := ⟨ws_2 133 rfl rfl, ws_1 3 rfl rfl, by decide +kernel, by decide +kernel, by decide +kernel⟩
theorem mv_Ch_waitFor : MV M_Ch_waitFor := ⟨ws_2 132 rfl rfl, ws_pr 14 rfl rfl⟩
theorem ok_Bo_verse : MOK 0 M_Bo_verse := ⟨ws_2 137 rfl rfl, ws_1 1 rfl rfl, by decide +kernel, by decide +kernel, by decide +kernel⟩
theorem mv_Bo_verse : MV M_Bo_verse := ⟨ws_2 135 rfl rfl, ws_2 136 rfl rfl⟩
theorem ok_Ch_singLines : MOK 2 M_Ch_singLines := ⟨ws_2 141 rfl rfl, ws_1 3 rfl rfl, by decide +kernel, by decide +kernel, by decide +kernel⟩
theorem mv_Ch_singLines : MV M_Ch_singLines := ⟨ws_2 139 rfl rfl, ws_2 140 rfl rfl⟩
theorem ok_Bo_ahead : MOK 1 M_Bo_ahead := ⟨ws_2 147 rfl rfl, ws_1 1 rfl rfl, by decide +kernel, by decide +kernel, by decide +kernel⟩
theorem mv_Bo_ahead : MV M_Bo_ahead := ⟨ws_2 145 rfl rfl, ws_2 146 rfl rfl⟩
theorem ok_Bo_choir : MOK 1 M_Bo_choir := ⟨ws_2 151 rfl rfl, ws_1 1 rfl rfl, by decide +kernel, by decide +kernel, by decide +kernel⟩
theorem mv_Bo_choir : MV M_Bo_choir := ⟨ws_2 149 rfl rfl, ws_2 150 rfl rfl⟩
theorem ok_Bo_knows : MOK 2 M_Bo_knows := ⟨ws_2 156 rfl rfl, ws_1 1 rfl rfl, by decide +kernel, by decide +kernel, by decide +kernel⟩
theorem mv_Bo_knows : MV M_Bo_knows := ⟨ws_2 154 rfl rfl, ws_2 155 rfl rfl⟩
theorem ok_In_bitCount : MOK 1 M_In_bitCount := ⟨ws_2 159 rfl rfl, ws_1 8 rfl rfl, by decide +kernel, by decide +kernel, by decide +kernel⟩
theorem st_In_bitCount : Cond.static M_In_bitCount.2.2.2.2.2 ∈ WS := ws_2 158 rfl rfl
theorem ok_Bo_waits : MOK 1 M_Bo_waits := ⟨ws_2 166 rfl rfl, ws_1 1 rfl rfl, by decide +kernel, by decide +kernel, by decide +kernel⟩
theorem mv_Bo_waits : MV M_Bo_waits := ⟨ws_2 164 rfl rfl, ws_2 165 rfl rfl⟩
theorem ok_Bo_undo : MOK 0 M_Bo_undo := ⟨ws_2 170 rfl rfl, ws_1 1 rfl rfl, by decide +kernel, by decide +kernel, by decide +kernel⟩
theorem mv_Bo_undo : MV M_Bo_undo := ⟨ws_2 168 rfl rfl, ws_2 169 rfl rfl⟩
theorem ok_Hi_takeBack : MOK 1 M_Hi_takeBack := ⟨ws_2 174 rfl rfl, ws_1 5 rfl rfl, by decide +kernel, by decide +kernel, by decide +kernel⟩
theorem mv_Hi_takeBack : MV M_Hi_takeBack := ⟨ws_2 172 rfl rfl, ws_2 173 rfl rfl⟩
theorem ok_Bo_behind : MOK 2 M_Bo_behind := ⟨ws_2 178 rfl rfl, ws_1 1 rfl rfl, by decide +kernel, by decide +kernel, by decide +kernel⟩
theorem mv_Bo_behind : MV M_Bo_behind := ⟨ws_2 176 rfl rfl, ws_2 177 rfl rfl⟩
theorem ok_Bo_asleep : MOK 1 M_Bo_asleep := ⟨ws_2 183 rfl rfl, ws_1 1 rfl rfl, by decide +kernel, by decide +kernel, by decide +kernel⟩
theorem mv_Bo_asleep : MV M_Bo_asleep := ⟨ws_2 181 rfl rfl, ws_2 182 rfl rfl⟩
theorem ok_Bo_rest : MOK 0 M_Bo_rest := ⟨ws_2 187 rfl rfl, ws_1 1 rfl rfl, by decide +kernel, by decide +kernel, by decide +kernel⟩
theorem mv_Bo_rest : MV M_Bo_rest := ⟨ws_2 185 rfl rfl, ws_2 186 rfl rfl⟩
theorem ok_Si_isAsLateAs : MOK 2 M_Si_isAsLateAs := ⟨ws_2 191 rfl rfl, ws_1 4 rfl rfl, by decide +kernel, by decide +kernel, by decide +kernel⟩
theorem mv_Si_isAsLateAs : MV M_Si_isAsLateAs := ⟨ws_2 189 rfl rfl, ws_2 190 rfl rfl⟩
theorem ok_Bo_playAhead : MOK 2 M_Bo_playAhead := ⟨ws_2 195 rfl rfl, ws_1 1 rfl rfl, by decide +kernel, by decide +kernel, by decide +kernel⟩
theorem mv_Bo_playAhead : MV M_Bo_playAhead := ⟨ws_2 193 rfl rfl, ws_2 194 rfl rfl⟩
theorem ok_Si_greatest : MOK 1 M_Si_greatest := ⟨ws_2 200 rfl rfl, ws_1 4 rfl rfl, by decide +kernel, by decide +kernel, by decide +kernel⟩
theorem mv_Si_greatest : MV M_Si_greatest := ⟨ws_2 198 rfl rfl, ws_2 199 rfl rfl⟩
theorem ok_Bo_seat : MOK 2 M_Bo_seat := ⟨ws_2 205 rfl rfl, ws_1 1 rfl rfl, by decide +kernel, by decide +kernel, by decide +kernel⟩
theorem mv_Bo_seat : MV M_Bo_seat := ⟨ws_2 203 rfl rfl, ws_2 204 rfl rfl⟩
theorem ok_Bo_apartBySeat : MOK 2 M_Bo_apartBySeat := ⟨ws_2 209 rfl rfl, ws_1 1 rfl rfl, by decide +kernel, by decide +kernel, by decide +kernel⟩
theorem mv_Bo_apartBySeat : MV M_Bo_apartBySeat := ⟨ws_2 208 rfl rfl, ws_pr 15 rfl rfl⟩
theorem ok_Bo_knowers : MOK 2 M_Bo_knowers := ⟨ws_2 213 rfl rfl, ws_1 1 rfl rfl, by decide +kernel, by decide +kernel, by decide +kernel⟩
theorem mv_Bo_knowers : MV M_Bo_knowers := ⟨ws_2 211 rfl rfl, ws_2 212 rfl rfl⟩
theorem ok_Bo_knowersOfSize : MOK 3 M_Bo_knowersOfSize := ⟨ws_2 217 rfl rfl, ws_1 1 rfl rfl, by decide +kernel, by decide +kernel, by decide +kernel⟩
theorem mv_Bo_knowersOfSize : MV M_Bo_knowersOfSize := ⟨ws_2 216 rfl rfl, ws_pr 16 rfl rfl⟩
theorem ok_Bo_pulls : MOK 1 M_Bo_pulls := ⟨ws_2 221 rfl rfl, ws_1 1 rfl rfl, by decide +kernel, by decide +kernel, by decide +kernel⟩
theorem mv_Bo_pulls : MV M_Bo_pulls := ⟨ws_2 219 rfl rfl, ws_2 220 rfl rfl⟩
theorem ok_Bo_paceWithout : MOK 2 M_Bo_paceWithout := ⟨ws_2 225 rfl rfl, ws_1 1 rfl rfl, by decide +kernel, by decide +kernel, by decide +kernel⟩
theorem mv_Bo_paceWithout : MV M_Bo_paceWithout := ⟨ws_2 224 rfl rfl, ws_pr 17 rfl rfl⟩
theorem ok_Ch_leaveOut : MOK 1 M_Ch_leaveOut := ⟨ws_2 229 rfl rfl, ws_1 3 rfl rfl, by decide +kernel, by decide +kernel, by decide +kernel⟩
theorem mv_Ch_leaveOut : MV M_Ch_leaveOut := ⟨ws_2 227 rfl rfl, ws_2 228 rfl rfl⟩
theorem ok_Si_leaveOut : MOK 1 M_Si_leaveOut := ⟨ws_2 233 rfl rfl, ws_1 4 rfl rfl, by decide +kernel, by decide +kernel, by decide +kernel⟩
theorem mv_Si_leaveOut : MV M_Si_leaveOut := ⟨ws_2 231 rfl rfl, ws_2 232 rfl rfl⟩
theorem ok_Bo_change : MOK 1 M_Bo_change := ⟨ws_2 238 rfl rfl, ws_1 1 rfl rfl, by decide +kernel, by decide +kernel, by decide +kernel⟩
theorem mv_Bo_change : MV M_Bo_change := ⟨ws_2 236 rfl rfl, ws_2 237 rfl rfl⟩
theorem ok_Bo_apartByChange : MOK 3 M_Bo_apartByChange := ⟨ws_3 2 rfl rfl, ws_1 1 rfl rfl, by decide +kernel, by decide +kernel, by decide +kernel⟩
theorem mv_Bo_apartByChange : MV M_Bo_apartByChange := ⟨ws_3 1 rfl rfl, ws_pr 18 rfl rfl⟩
theorem ok_Bo_gaps : MOK 1 M_Bo_gaps := ⟨ws_3 6 rfl rfl, ws_1 1 rfl rfl, by decide +kernel, by decide +kernel, by decide +kernel⟩
theorem mv_Bo_gaps : MV M_Bo_gaps := ⟨ws_3 4 rfl rfl, ws_3 5 rfl rfl⟩
theorem ok_Bo_hear : MOK 3 M_Bo_hear := ⟨ws_3 10 rfl rfl, ws_1 1 rfl rfl, by decide +kernel, by decide +kernel, by decide +kernel⟩
theorem mv_Bo_hear : MV M_Bo_hear := ⟨ws_3 8 rfl rfl, ws_3 9 rfl rfl⟩
theorem ok_Bo_forget : MOK 0 M_Bo_forget := ⟨ws_3 14 rfl rfl, ws_1 1 rfl rfl, by decide +kernel, by decide +kernel, by decide +kernel⟩
theorem mv_Bo_forget : MV M_Bo_forget := ⟨ws_3 12 rfl rfl, ws_3 13 rfl rfl⟩
theorem ok_Bo_waited : MOK 0 M_Bo_waited := ⟨ws_3 18 rfl rfl, ws_1 1 rfl rfl, by decide +kernel, by decide +kernel, by decide +kernel⟩
theorem mv_Bo_waited : MV M_Bo_waited := ⟨ws_3 16 rfl rfl, ws_3 17 rfl rfl⟩
theorem ok_Bo_isAllHeardSo : MOK 1 M_Bo_isAllHeardSo := ⟨ws_3 22 rfl rfl, ws_1 1 rfl rfl, by decide +kernel, by decide +kernel, by decide +kernel⟩
theorem mv_Bo_isAllHeardSo : MV M_Bo_isAllHeardSo := ⟨ws_3 21 rfl rfl, ws_pr 19 rfl rfl⟩
theorem ok_Bo_odds : MOK 5 M_Bo_odds := ⟨ws_3 26 rfl rfl, ws_1 1 rfl rfl, by decide +kernel, by decide +kernel, by decide +kernel⟩
theorem mv_Bo_odds : MV M_Bo_odds := ⟨ws_3 24 rfl rfl, ws_3 25 rfl rfl⟩
theorem ok_Bo_apartByPlays : MOK 3 M_Bo_apartByPlays := ⟨ws_3 31 rfl rfl, ws_1 1 rfl rfl, by decide +kernel, by decide +kernel, by decide +kernel⟩
theorem mv_Bo_apartByPlays : MV M_Bo_apartByPlays := ⟨ws_3 30 rfl rfl, ws_pr 20 rfl rfl⟩
theorem ok_Bo_power : MOK 2 M_Bo_power := ⟨ws_3 34 rfl rfl, ws_1 1 rfl rfl, by decide +kernel, by decide +kernel, by decide +kernel⟩
theorem st_Bo_power : Cond.static M_Bo_power.2.2.2.2.2 ∈ WS := ws_3 33 rfl rfl
theorem ok_Bo_commonDivisor : MOK 2 M_Bo_commonDivisor := ⟨ws_3 37 rfl rfl, ws_1 1 rfl rfl, by decide +kernel, by decide +kernel, by decide +kernel⟩
theorem st_Bo_commonDivisor : Cond.static M_Bo_commonDivisor.2.2.2.2.2 ∈ WS := ws_3 36 rfl rfl
theorem ok_Bo_rate : MOK 2 M_Bo_rate := ⟨ws_3 41 rfl rfl, ws_1 1 rfl rfl, by decide +kernel, by decide +kernel, by decide +kernel⟩
theorem mv_Bo_rate : MV M_Bo_rate := ⟨ws_3 39 rfl rfl, ws_3 40 rfl rfl⟩
theorem ok_Bo_rateFront : MOK 1 M_Bo_rateFront := ⟨ws_3 45 rfl rfl, ws_1 1 rfl rfl, by decide +kernel, by decide +kernel, by decide +kernel⟩
theorem mv_Bo_rateFront : MV M_Bo_rateFront := ⟨ws_3 44 rfl rfl, ws_pr 21 rfl rfl⟩
theorem ok_Bo_ratePew : MOK 1 M_Bo_ratePew := ⟨ws_3 50 rfl rfl, ws_1 1 rfl rfl, by decide +kernel, by decide +kernel, by decide +kernel⟩
theorem mv_Bo_ratePew : MV M_Bo_ratePew := ⟨ws_3 49 rfl rfl, ws_pr 22 rfl rfl⟩
theorem ok_Bo_rateBasses : MOK 1 M_Bo_rateBasses := ⟨ws_3 54 rfl rfl, ws_1 1 rfl rfl, by decide +kernel, by decide +kernel, by decide +kernel⟩
theorem mv_Bo_rateBasses : MV M_Bo_rateBasses := ⟨ws_3 53 rfl rfl, ws_pr 23 rfl rfl⟩
theorem ok_Bo_rateWidows : MOK 1 M_Bo_rateWidows := ⟨ws_3 59 rfl rfl, ws_1 1 rfl rfl, by decide +kernel, by decide +kernel, by decide +kernel⟩
theorem mv_Bo_rateWidows : MV M_Bo_rateWidows := ⟨ws_3 58 rfl rfl, ws_pr 24 rfl rfl⟩
theorem ok_Bo_rateBoys : MOK 1 M_Bo_rateBoys := ⟨ws_3 64 rfl rfl, ws_1 1 rfl rfl, by decide +kernel, by decide +kernel, by decide +kernel⟩
theorem mv_Bo_rateBoys : MV M_Bo_rateBoys := ⟨ws_3 63 rfl rfl, ws_pr 25 rfl rfl⟩
theorem ok_Bo_rateStrangers : MOK 1 M_Bo_rateStrangers := ⟨ws_3 69 rfl rfl, ws_1 1 rfl rfl, by decide +kernel, by decide +kernel, by decide +kernel⟩
theorem mv_Bo_rateStrangers : MV M_Bo_rateStrangers := ⟨ws_3 68 rfl rfl, ws_pr 26 rfl rfl⟩
theorem ok_Bo_keep : MOK 1 M_Bo_keep := ⟨ws_3 74 rfl rfl, ws_1 1 rfl rfl, by decide +kernel, by decide +kernel, by decide +kernel⟩
theorem mv_Bo_keep : MV M_Bo_keep := ⟨ws_3 72 rfl rfl, ws_3 73 rfl rfl⟩
theorem ok_Bo_back : MOK 1 M_Bo_back := ⟨ws_3 78 rfl rfl, ws_1 1 rfl rfl, by decide +kernel, by decide +kernel, by decide +kernel⟩
theorem mv_Bo_back : MV M_Bo_back := ⟨ws_3 76 rfl rfl, ws_3 77 rfl rfl⟩
theorem ok_Bo_count : MOK 1 M_Bo_count := ⟨ws_3 82 rfl rfl, ws_1 1 rfl rfl, by decide +kernel, by decide +kernel, by decide +kernel⟩
theorem mv_Bo_count : MV M_Bo_count := ⟨ws_3 80 rfl rfl, ws_3 81 rfl rfl⟩
theorem ok_Bo_trace : MOK 0 M_Bo_trace := ⟨ws_3 86 rfl rfl, ws_1 1 rfl rfl, by decide +kernel, by decide +kernel, by decide +kernel⟩
theorem mv_Bo_trace : MV M_Bo_trace := ⟨ws_3 84 rfl rfl, ws_3 85 rfl rfl⟩
theorem ok_Mo_init : MOK 0 M_Mo_init := ⟨ws_3 91 rfl rfl, ws_1 6 rfl rfl, by decide +kernel, by decide +kernel, by decide +kernel⟩
theorem im_Mo_init : Cond.instanceMethod M_Mo_init.2.2.2.2.2 ∈ WS := ws_3 90 rfl rfl
theorem ok_Mo_clean : MOK 1 M_Mo_clean := ⟨ws_3 95 rfl rfl, ws_1 6 rfl rfl, by decide +kernel, by decide +kernel, by decide +kernel⟩
theorem st_Mo_clean : Cond.static M_Mo_clean.2.2.2.2.2 ∈ WS := ws_3 94 rfl rfl
theorem ok_Mo_type : MOK 1 M_Mo_type := ⟨ws_3 151 rfl rfl, ws_1 6 rfl rfl, by decide +kernel, by decide +kernel, by decide +kernel⟩
theorem mv_Mo_type : MV M_Mo_type := ⟨ws_3 149 rfl rfl, ws_3 150 rfl rfl⟩
theorem ok_Mo_in : MOK 3 M_Mo_in := ⟨ws_3 155 rfl rfl, ws_1 6 rfl rfl, by decide +kernel, by decide +kernel, by decide +kernel⟩
theorem st_Mo_in : Cond.static M_Mo_in.2.2.2.2.2 ∈ WS := ws_3 154 rfl rfl
theorem ok_Mo_clear : MOK 0 M_Mo_clear := ⟨ws_3 161 rfl rfl, ws_1 6 rfl rfl, by decide +kernel, by decide +kernel, by decide +kernel⟩
theorem mv_Mo_clear : MV M_Mo_clear := ⟨ws_3 159 rfl rfl, ws_3 160 rfl rfl⟩
theorem ok_Mo_church : MOK 0 M_Mo_church := ⟨ws_3 165 rfl rfl, ws_1 6 rfl rfl, by decide +kernel, by decide +kernel, by decide +kernel⟩
theorem mv_Mo_church : MV M_Mo_church := ⟨ws_3 163 rfl rfl, ws_3 164 rfl rfl⟩
theorem ok_Mo_first : MOK 0 M_Mo_first := ⟨ws_3 169 rfl rfl, ws_1 6 rfl rfl, by decide +kernel, by decide +kernel, by decide +kernel⟩
theorem mv_Mo_first : MV M_Mo_first := ⟨ws_3 168 rfl rfl, ws_pr 27 rfl rfl⟩
theorem ok_Mo_takesItem : MOK 1 M_Mo_takesItem := ⟨ws_3 173 rfl rfl, ws_1 6 rfl rfl, by decide +kernel, by decide +kernel, by decide +kernel⟩
theorem mv_Mo_takesItem : MV M_Mo_takesItem := ⟨ws_3 172 rfl rfl, ws_pr 28 rfl rfl⟩
theorem ok_Mo_takesPew : MOK 0 M_Mo_takesPew := ⟨ws_3 177 rfl rfl, ws_1 6 rfl rfl, by decide +kernel, by decide +kernel, by decide +kernel⟩
theorem mv_Mo_takesPew : MV M_Mo_takesPew := ⟨ws_3 176 rfl rfl, ws_pr 29 rfl rfl⟩
theorem ok_Mo_number : MOK 3 M_Mo_number := ⟨ws_3 181 rfl rfl, ws_1 6 rfl rfl, by decide +kernel, by decide +kernel, by decide +kernel⟩
theorem mv_Mo_number : MV M_Mo_number := ⟨ws_3 180 rfl rfl, ws_pr 30 rfl rfl⟩
theorem ok_Mo_ends : MOK 0 M_Mo_ends := ⟨ws_3 187 rfl rfl, ws_1 6 rfl rfl, by decide +kernel, by decide +kernel, by decide +kernel⟩
theorem mv_Mo_ends : MV M_Mo_ends := ⟨ws_3 186 rfl rfl, ws_pr 31 rfl rfl⟩
theorem ok_Mo_takesOne : MOK 3 M_Mo_takesOne := ⟨ws_3 191 rfl rfl, ws_1 6 rfl rfl, by decide +kernel, by decide +kernel, by decide +kernel⟩
theorem mv_Mo_takesOne : MV M_Mo_takesOne := ⟨ws_3 190 rfl rfl, ws_pr 32 rfl rfl⟩
theorem ok_Mo_copies : MOK 4 M_Mo_copies := ⟨ws_3 194 rfl rfl, ws_1 6 rfl rfl, by decide +kernel, by decide +kernel, by decide +kernel⟩
theorem st_Mo_copies : Cond.static M_Mo_copies.2.2.2.2.2 ∈ WS := ws_3 193 rfl rfl
theorem ok_Mo_pew : MOK 2 M_Mo_pew := ⟨ws_3 198 rfl rfl, ws_1 6 rfl rfl, by decide +kernel, by decide +kernel, by decide +kernel⟩
theorem mv_Mo_pew : MV M_Mo_pew := ⟨ws_3 196 rfl rfl, ws_3 197 rfl rfl⟩
theorem ok_Mo_isPew : MOK 1 M_Mo_isPew := ⟨ws_3 202 rfl rfl, ws_1 6 rfl rfl, by decide +kernel, by decide +kernel, by decide +kernel⟩
theorem mv_Mo_isPew : MV M_Mo_isPew := ⟨ws_3 201 rfl rfl, ws_pr 33 rfl rfl⟩
theorem ok_Mo_now : MOK 1 M_Mo_now := ⟨ws_3 207 rfl rfl, ws_1 6 rfl rfl, by decide +kernel, by decide +kernel, by decide +kernel⟩
theorem mv_Mo_now : MV M_Mo_now := ⟨ws_3 205 rfl rfl, ws_3 206 rfl rfl⟩
theorem ok_Mo_apart : MOK 1 M_Mo_apart := ⟨ws_3 211 rfl rfl, ws_1 6 rfl rfl, by decide +kernel, by decide +kernel, by decide +kernel⟩
theorem st_Mo_apart : Cond.static M_Mo_apart.2.2.2.2.2 ∈ WS := ws_3 210 rfl rfl
theorem ok_Mo_line : MOK 0 M_Mo_line := ⟨ws_3 215 rfl rfl, ws_1 6 rfl rfl, by decide +kernel, by decide +kernel, by decide +kernel⟩
theorem mv_Mo_line : MV M_Mo_line := ⟨ws_3 213 rfl rfl, ws_3 214 rfl rfl⟩
theorem ok_Mo_remember : MOK 0 M_Mo_remember := ⟨ws_3 220 rfl rfl, ws_1 6 rfl rfl, by decide +kernel, by decide +kernel, by decide +kernel⟩
theorem mv_Mo_remember : MV M_Mo_remember := ⟨ws_3 219 rfl rfl, ws_pr 34 rfl rfl⟩
theorem ok_Mo_sings : MOK 1 M_Mo_sings := ⟨ws_3 224 rfl rfl, ws_1 6 rfl rfl, by decide +kernel, by decide +kernel, by decide +kernel⟩
theorem mv_Mo_sings : MV M_Mo_sings := ⟨ws_3 223 rfl rfl, ws_pr 35 rfl rfl⟩
theorem ok_Mo_lateThen : MOK 2 M_Mo_lateThen := ⟨ws_3 227 rfl rfl, ws_1 6 rfl rfl, by decide +kernel, by decide +kernel, by decide +kernel⟩
theorem st_Mo_lateThen : Cond.static M_Mo_lateThen.2.2.2.2.2 ∈ WS := ws_3 226 rfl rfl
theorem ok_Mo_from : MOK 3 M_Mo_from := ⟨ws_3 230 rfl rfl, ws_1 6 rfl rfl, by decide +kernel, by decide +kernel, by decide +kernel⟩
theorem st_Mo_from : Cond.static M_Mo_from.2.2.2.2.2 ∈ WS := ws_3 229 rfl rfl
theorem ok_Mo_verse : MOK 0 M_Mo_verse := ⟨ws_3 234 rfl rfl, ws_1 6 rfl rfl, by decide +kernel, by decide +kernel, by decide +kernel⟩
theorem mv_Mo_verse : MV M_Mo_verse := ⟨ws_3 232 rfl rfl, ws_3 233 rfl rfl⟩
theorem ok_Mo_rests : MOK 2 M_Mo_rests := ⟨ws_3 237 rfl rfl, ws_1 6 rfl rfl, by decide +kernel, by decide +kernel, by decide +kernel⟩
theorem st_Mo_rests : Cond.static M_Mo_rests.2.2.2.2.2 ∈ WS := ws_3 236 rfl rfl
theorem ok_Mo_ahead : MOK 1 M_Mo_ahead := ⟨ws_4 1 rfl rfl, ws_1 6 rfl rfl, by decide +kernel, by decide +kernel, by decide +kernel⟩
theorem mv_Mo_ahead : MV M_Mo_ahead := ⟨ws_3 239 rfl rfl, ws_4 0 rfl rfl⟩
theorem ok_Mo_puts : MOK 2 M_Mo_puts := ⟨ws_4 6 rfl rfl, ws_1 6 rfl rfl, by decide +kernel, by decide +kernel, by decide +kernel⟩
theorem mv_Mo_puts : MV M_Mo_puts := ⟨ws_4 5 rfl rfl, ws_pr 36 rfl rfl⟩
theorem ok_Mo_choir : MOK 1 M_Mo_choir := ⟨ws_4 10 rfl rfl, ws_1 6 rfl rfl, by decide +kernel, by decide +kernel, by decide +kernel⟩
theorem mv_Mo_choir : MV M_Mo_choir := ⟨ws_4 8 rfl rfl, ws_4 9 rfl rfl⟩
theorem ok_Mo_knows : MOK 2 M_Mo_knows := ⟨ws_4 14 rfl rfl, ws_1 6 rfl rfl, by decide +kernel, by decide +kernel, by decide +kernel⟩
theorem mv_Mo_knows : MV M_Mo_knows := ⟨ws_4 12 rfl rfl, ws_4 13 rfl rfl⟩
theorem ok_Mo_isTwo : MOK 1 M_Mo_isTwo := ⟨ws_4 17 rfl rfl, ws_1 6 rfl rfl, by decide +kernel, by decide +kernel, by decide +kernel⟩
theorem st_Mo_isTwo : Cond.static M_Mo_isTwo.2.2.2.2.2 ∈ WS := ws_4 16 rfl rfl
theorem ok_Mo_bits : MOK 1 M_Mo_bits := ⟨ws_4 20 rfl rfl, ws_1 6 rfl rfl, by decide +kernel, by decide +kernel, by decide +kernel⟩
theorem st_Mo_bits : Cond.static M_Mo_bits.2.2.2.2.2 ∈ WS := ws_4 19 rfl rfl
theorem ok_Mo_waits : MOK 1 M_Mo_waits := ⟨ws_4 24 rfl rfl, ws_1 6 rfl rfl, by decide +kernel, by decide +kernel, by decide +kernel⟩
theorem mv_Mo_waits : MV M_Mo_waits := ⟨ws_4 22 rfl rfl, ws_4 23 rfl rfl⟩
theorem ok_Mo_undo : MOK 0 M_Mo_undo := ⟨ws_4 29 rfl rfl, ws_1 6 rfl rfl, by decide +kernel, by decide +kernel, by decide +kernel⟩
theorem mv_Mo_undo : MV M_Mo_undo := ⟨ws_4 27 rfl rfl, ws_4 28 rfl rfl⟩
theorem ok_Mo_behind : MOK 2 M_Mo_behind := ⟨ws_4 33 rfl rfl, ws_1 6 rfl rfl, by decide +kernel, by decide +kernel, by decide +kernel⟩
theorem mv_Mo_behind : MV M_Mo_behind := ⟨ws_4 31 rfl rfl, ws_4 32 rfl rfl⟩
theorem ok_Mo_asNow : MOK 0 M_Mo_asNow := ⟨ws_4 38 rfl rfl, ws_1 6 rfl rfl, by decide +kernel, by decide +kernel, by decide +kernel⟩
theorem mv_Mo_asNow : MV M_Mo_asNow := ⟨ws_4 37 rfl rfl, ws_pr 37 rfl rfl⟩
theorem ok_Mo_go : MOK 1 M_Mo_go := ⟨ws_4 42 rfl rfl, ws_1 6 rfl rfl, by decide +kernel, by decide +kernel, by decide +kernel⟩
theorem mv_Mo_go : MV M_Mo_go := ⟨ws_4 41 rfl rfl, ws_pr 38 rfl rfl⟩
theorem ok_Mo_asleep : MOK 1 M_Mo_asleep := ⟨ws_4 46 rfl rfl, ws_1 6 rfl rfl, by decide +kernel, by decide +kernel, by decide +kernel⟩
theorem mv_Mo_asleep : MV M_Mo_asleep := ⟨ws_4 44 rfl rfl, ws_4 45 rfl rfl⟩
theorem ok_Mo_rest : MOK 0 M_Mo_rest := ⟨ws_4 51 rfl rfl, ws_1 6 rfl rfl, by decide +kernel, by decide +kernel, by decide +kernel⟩
theorem mv_Mo_rest : MV M_Mo_rest := ⟨ws_4 49 rfl rfl, ws_4 50 rfl rfl⟩
theorem ok_Mo_playAhead : MOK 2 M_Mo_playAhead := ⟨ws_4 55 rfl rfl, ws_1 6 rfl rfl, by decide +kernel, by decide +kernel, by decide +kernel⟩
theorem mv_Mo_playAhead : MV M_Mo_playAhead := ⟨ws_4 53 rfl rfl, ws_4 54 rfl rfl⟩
theorem ok_Mo_isSpan : MOK 1 M_Mo_isSpan := ⟨ws_4 58 rfl rfl, ws_1 6 rfl rfl, by decide +kernel, by decide +kernel, by decide +kernel⟩
theorem st_Mo_isSpan : Cond.static M_Mo_isSpan.2.2.2.2.2 ∈ WS := ws_4 57 rfl rfl
theorem ok_Mo_greatest : MOK 1 M_Mo_greatest := ⟨ws_4 63 rfl rfl, ws_1 6 rfl rfl, by decide +kernel, by decide +kernel, by decide +kernel⟩
theorem st_Mo_greatest : Cond.static M_Mo_greatest.2.2.2.2.2 ∈ WS := ws_4 62 rfl rfl
theorem ok_Mo_seat : MOK 2 M_Mo_seat := ⟨ws_4 67 rfl rfl, ws_1 6 rfl rfl, by decide +kernel, by decide +kernel, by decide +kernel⟩
theorem mv_Mo_seat : MV M_Mo_seat := ⟨ws_4 65 rfl rfl, ws_4 66 rfl rfl⟩
theorem ok_Mo_knowers : MOK 2 M_Mo_knowers := ⟨ws_4 71 rfl rfl, ws_1 6 rfl rfl, by decide +kernel, by decide +kernel, by decide +kernel⟩
theorem mv_Mo_knowers : MV M_Mo_knowers := ⟨ws_4 69 rfl rfl, ws_4 70 rfl rfl⟩
theorem ok_Mo_pulls : MOK 1 M_Mo_pulls := ⟨ws_4 76 rfl rfl, ws_1 6 rfl rfl, by decide +kernel, by decide +kernel, by decide +kernel⟩
theorem mv_Mo_pulls : MV M_Mo_pulls := ⟨ws_4 74 rfl rfl, ws_4 75 rfl rfl⟩
theorem ok_Mo_without : MOK 1 M_Mo_without := ⟨ws_4 80 rfl rfl, ws_1 6 rfl rfl, by decide +kernel, by decide +kernel, by decide +kernel⟩
theorem mv_Mo_without : MV M_Mo_without := ⟨ws_4 79 rfl rfl, ws_pr 39 rfl rfl⟩
theorem ok_Mo_change : MOK 1 M_Mo_change := ⟨ws_4 84 rfl rfl, ws_1 6 rfl rfl, by decide +kernel, by decide +kernel, by decide +kernel⟩
theorem mv_Mo_change : MV M_Mo_change := ⟨ws_4 82 rfl rfl, ws_4 83 rfl rfl⟩
theorem ok_Mo_gaps : MOK 1 M_Mo_gaps := ⟨ws_4 88 rfl rfl, ws_1 6 rfl rfl, by decide +kernel, by decide +kernel, by decide +kernel⟩
theorem mv_Mo_gaps : MV M_Mo_gaps := ⟨ws_4 86 rfl rfl, ws_4 87 rfl rfl⟩
theorem ok_Mo_hear : MOK 3 M_Mo_hear := ⟨ws_4 92 rfl rfl, ws_1 6 rfl rfl, by decide +kernel, by decide +kernel, by decide +kernel⟩
theorem mv_Mo_hear : MV M_Mo_hear := ⟨ws_4 90 rfl rfl, ws_4 91 rfl rfl⟩
theorem ok_Mo_forget : MOK 0 M_Mo_forget := ⟨ws_4 98 rfl rfl, ws_1 6 rfl rfl, by decide +kernel, by decide +kernel, by decide +kernel⟩
theorem mv_Mo_forget : MV M_Mo_forget := ⟨ws_4 96 rfl rfl, ws_4 97 rfl rfl⟩
theorem ok_Mo_waited : MOK 0 M_Mo_waited := ⟨ws_4 102 rfl rfl, ws_1 6 rfl rfl, by decide +kernel, by decide +kernel, by decide +kernel⟩
theorem mv_Mo_waited : MV M_Mo_waited := ⟨ws_4 100 rfl rfl, ws_4 101 rfl rfl⟩
theorem ok_Mo_isSo : MOK 1 M_Mo_isSo := ⟨ws_4 106 rfl rfl, ws_1 6 rfl rfl, by decide +kernel, by decide +kernel, by decide +kernel⟩
theorem mv_Mo_isSo : MV M_Mo_isSo := ⟨ws_4 105 rfl rfl, ws_pr 40 rfl rfl⟩
theorem ok_Mo_odds : MOK 5 M_Mo_odds := ⟨ws_4 110 rfl rfl, ws_1 6 rfl rfl, by decide +kernel, by decide +kernel, by decide +kernel⟩
theorem mv_Mo_odds : MV M_Mo_odds := ⟨ws_4 108 rfl rfl, ws_4 109 rfl rfl⟩
theorem ok_Mo_rate : MOK 2 M_Mo_rate := ⟨ws_4 115 rfl rfl, ws_1 6 rfl rfl, by decide +kernel, by decide +kernel, by decide +kernel⟩
theorem mv_Mo_rate : MV M_Mo_rate := ⟨ws_4 113 rfl rfl, ws_4 114 rfl rfl⟩
theorem ok_Mo_keep : MOK 1 M_Mo_keep := ⟨ws_4 124 rfl rfl, ws_1 6 rfl rfl, by decide +kernel, by decide +kernel, by decide +kernel⟩
theorem mv_Mo_keep : MV M_Mo_keep := ⟨ws_4 122 rfl rfl, ws_4 123 rfl rfl⟩
theorem ok_Mo_back : MOK 1 M_Mo_back := ⟨ws_4 128 rfl rfl, ws_1 6 rfl rfl, by decide +kernel, by decide +kernel, by decide +kernel⟩
theorem mv_Mo_back : MV M_Mo_back := ⟨ws_4 126 rfl rfl, ws_4 127 rfl rfl⟩
theorem ok_Mo_count : MOK 1 M_Mo_count := ⟨ws_4 132 rfl rfl, ws_1 6 rfl rfl, by decide +kernel, by decide +kernel, by decide +kernel⟩
theorem mv_Mo_count : MV M_Mo_count := ⟨ws_4 130 rfl rfl, ws_4 131 rfl rfl⟩
theorem ok_Mo_trace : MOK 0 M_Mo_trace := ⟨ws_4 136 rfl rfl, ws_1 6 rfl rfl, by decide +kernel, by decide +kernel, by decide +kernel⟩
theorem mv_Mo_trace : MV M_Mo_trace := ⟨ws_4 134 rfl rfl, ws_4 135 rfl rfl⟩
theorem ml_La_9 : Cond.methodLink RL 9 M_Bo_init.2.2.2.2.2 ∈ WS := ws_1 11 rfl rfl
theorem ml_Bo_1 : Cond.methodLink RX4 1 objectInit ∈ WS := ws_1 14 rfl rfl
theorem ml_Re_3 : Cond.methodLink RX2 3 objectInit ∈ WS := ws_1 22 rfl rfl
theorem ml_Bo_18 : Cond.methodLink RX4 18 M_Ch_init.2.2.2.2.2 ∈ WS := ws_1 55 rfl rfl
theorem ml_Ch_3 : Cond.methodLink RX0 3 objectInit ∈ WS := ws_1 58 rfl rfl
theorem ml_Ch_27 : Cond.methodLink RX0 27 M_Ch_empty.2.2.2.2.2 ∈ WS := ws_1 59 rfl rfl
theorem ml_Si_3 : Cond.methodLink RX3 3 objectInit ∈ WS := ws_1 112 rfl rfl
theorem ml_Bo_41 : Cond.methodLink RX4 41 M_Hi_init.2.2.2.2.2 ∈ WS := ws_1 151 rfl rfl
theorem ml_Hi_3 : Cond.methodLink RX1 3 objectInit ∈ WS := ws_1 154 rfl rfl
theorem ml_La_13 : Cond.methodLink RL 13 M_Bo_type.2.2.2.2.2 ∈ WS := ws_1 213 rfl rfl
theorem ml_Bo_64 : Cond.methodLink RX4 64 M_Bo_within.2.2.2.2.2 ∈ WS := ws_1 217 rfl rfl
theorem ml_Bo_69 : Cond.methodLink RX4 69 M_Re_add.2.2.2.2.2 ∈ WS := ws_1 221 rfl rfl
theorem ml_La_18 : Cond.methodLink RL 18 M_Bo_clear.2.2.2.2.2 ∈ WS := ws_1 226 rfl rfl
theorem ml_Bo_78 : Cond.methodLink RX4 78 M_Re_empty.2.2.2.2.2 ∈ WS := ws_1 230 rfl rfl
theorem ml_La_23 : Cond.methodLink RL 23 M_Bo_church.2.2.2.2.2 ∈ WS := ws_1 234 rfl rfl
theorem ml_Bo_82 : Cond.methodLink RX4 82 M_Re_readInto.2.2.2.2.2 ∈ WS := ws_1 238 rfl rfl
theorem ml_Re_19 : Cond.methodLink RX2 19 M_Ch_empty.2.2.2.2.2 ∈ WS := ws_2 2 rfl rfl
theorem ml_Re_37 : Cond.methodLink RX2 37 M_Re_readToken.2.2.2.2.2 ∈ WS := ws_2 3 rfl rfl
theorem ml_Re_101 : Cond.methodLink RX2 101 M_Re_isDigit.2.2.2.2.2 ∈ WS := ws_2 7 rfl rfl
theorem ml_Re_105 : Cond.methodLink RX2 105 M_Re_readDigits.2.2.2.2.2 ∈ WS := ws_2 10 rfl rfl
theorem ml_Re_43 : Cond.methodLink RX2 43 M_Re_readItem.2.2.2.2.2 ∈ WS := ws_2 14 rfl rfl
theorem ml_Re_53 : Cond.methodLink RX2 53 M_Re_readPew.2.2.2.2.2 ∈ WS := ws_2 18 rfl rfl
theorem ml_Re_69 : Cond.methodLink RX2 69 M_Re_readNumber.2.2.2.2.2 ∈ WS := ws_2 22 rfl rfl
theorem ml_Re_56 : Cond.methodLink RX2 56 M_Re_readItemEnd.2.2.2.2.2 ∈ WS := ws_2 27 rfl rfl
theorem ml_Re_60 : Cond.methodLink RX2 60 M_Re_readWait.2.2.2.2.2 ∈ WS := ws_2 31 rfl rfl
theorem ml_Re_63 : Cond.methodLink RX2 63 M_Re_readLines.2.2.2.2.2 ∈ WS := ws_2 35 rfl rfl
theorem ml_Re_66 : Cond.methodLink RX2 66 M_Re_readGap.2.2.2.2.2 ∈ WS := ws_2 39 rfl rfl
theorem ml_Bo_86 : Cond.methodLink RX4 86 M_Ch_copyFrom.2.2.2.2.2 ∈ WS := ws_2 43 rfl rfl
theorem ml_Ch_49 : Cond.methodLink RX0 49 M_Ch_copyPew.2.2.2.2.2 ∈ WS := ws_2 47 rfl rfl
theorem ml_Bo_90 : Cond.methodLink RX4 90 M_Bo_beginAnew.2.2.2.2.2 ∈ WS := ws_2 51 rfl rfl
theorem ml_Bo_96 : Cond.methodLink RX4 96 M_Si_begin.2.2.2.2.2 ∈ WS := ws_2 55 rfl rfl
theorem ml_La_27 : Cond.methodLink RL 27 M_Bo_pew.2.2.2.2.2 ∈ WS := ws_2 59 rfl rfl
theorem ml_Bo_106 : Cond.methodLink RX4 106 M_Ch_has.2.2.2.2.2 ∈ WS := ws_2 63 rfl rfl
theorem ml_Bo_124 : Cond.methodLink RX4 124 M_Ch_lag.2.2.2.2.2 ∈ WS := ws_2 67 rfl rfl
theorem ml_Bo_128 : Cond.methodLink RX4 128 M_Si_isKnower.2.2.2.2.2 ∈ WS := ws_2 71 rfl rfl
theorem ml_La_32 : Cond.methodLink RL 32 M_Bo_now.2.2.2.2.2 ∈ WS := ws_2 75 rfl rfl
theorem ml_Bo_149 : Cond.methodLink RX4 149 M_Si_apart.2.2.2.2.2 ∈ WS := ws_2 79 rfl rfl
theorem ml_Si_35 : Cond.methodLink RX3 35 M_Ma_max.2.2.2.2.2 ∈ WS := ws_2 83 rfl rfl
theorem ml_Si_41 : Cond.methodLink RX3 41 M_Ma_min.2.2.2.2.2 ∈ WS := ws_2 86 rfl rfl
theorem ml_La_36 : Cond.methodLink RL 36 M_Bo_line.2.2.2.2.2 ∈ WS := ws_2 89 rfl rfl
theorem ml_Bo_153 : Cond.methodLink RX4 153 M_Hi_remember.2.2.2.2.2 ∈ WS := ws_2 94 rfl rfl
theorem ml_Hi_22 : Cond.methodLink RX1 22 M_Si_copyFrom.2.2.2.2.2 ∈ WS := ws_2 98 rfl rfl
theorem ml_Hi_29 : Cond.methodLink RX1 29 M_Ma_min.2.2.2.2.2 ∈ WS := ws_2 102 rfl rfl
theorem ml_Bo_157 : Cond.methodLink RX4 157 M_Ch_singLine.2.2.2.2.2 ∈ WS := ws_2 103 rfl rfl
theorem ml_Ch_69 : Cond.methodLink RX0 69 M_Ch_lateBehindLine.2.2.2.2.2 ∈ WS := ws_2 107 rfl rfl
theorem ml_Ch_83 : Cond.methodLink RX0 83 M_Ch_lag.2.2.2.2.2 ∈ WS := ws_2 111 rfl rfl
theorem ml_Ch_89 : Cond.methodLink RX0 89 M_Ch_meanBeside.2.2.2.2.2 ∈ WS := ws_2 112 rfl rfl
theorem ml_Ch_53 : Cond.methodLink RX0 53 M_Ch_has.2.2.2.2.2 ∈ WS := ws_2 116 rfl rfl
theorem ml_Ch_101 : Cond.methodLink RX0 101 M_Ch_between.2.2.2.2.2 ∈ WS := ws_2 117 rfl rfl
theorem ml_Ch_43 : Cond.methodLink RX0 43 M_Ma_abs.2.2.2.2.2 ∈ WS := ws_2 121 rfl rfl
theorem ml_Ch_95 : Cond.methodLink RX0 95 M_Si_isKnower.2.2.2.2.2 ∈ WS := ws_2 127 rfl rfl
theorem ml_Ch_79 : Cond.methodLink RX0 79 M_Ma_min.2.2.2.2.2 ∈ WS := ws_2 128 rfl rfl
theorem ml_Ch_98 : Cond.methodLink RX0 98 M_Ma_max.2.2.2.2.2 ∈ WS := ws_2 129 rfl rfl
theorem ml_Ch_73 : Cond.methodLink RX0 73 M_Ch_waitFor.2.2.2.2.2 ∈ WS := ws_2 130 rfl rfl
theorem ml_La_40 : Cond.methodLink RL 40 M_Bo_verse.2.2.2.2.2 ∈ WS := ws_2 134 rfl rfl
theorem ml_Bo_163 : Cond.methodLink RX4 163 M_Ch_singLines.2.2.2.2.2 ∈ WS := ws_2 138 rfl rfl
theorem ml_Ch_57 : Cond.methodLink RX0 57 M_Ch_singLine.2.2.2.2.2 ∈ WS := ws_2 142 rfl rfl
theorem ml_Bo_170 : Cond.methodLink RX4 170 M_Bo_divided.2.2.2.2.2 ∈ WS := ws_2 143 rfl rfl
theorem ml_La_44 : Cond.methodLink RL 44 M_Bo_ahead.2.2.2.2.2 ∈ WS := ws_2 144 rfl rfl
theorem ml_La_48 : Cond.methodLink RL 48 M_Bo_choir.2.2.2.2.2 ∈ WS := ws_2 148 rfl rfl
theorem ml_La_52 : Cond.methodLink RL 52 M_Bo_knows.2.2.2.2.2 ∈ WS := ws_2 153 rfl rfl
theorem ml_Bo_178 : Cond.methodLink RX4 178 M_In_bitCount.2.2.2.2.2 ∈ WS := ws_2 157 rfl rfl
theorem ml_La_56 : Cond.methodLink RL 56 M_Bo_waits.2.2.2.2.2 ∈ WS := ws_2 163 rfl rfl
theorem ml_La_60 : Cond.methodLink RL 60 M_Bo_undo.2.2.2.2.2 ∈ WS := ws_2 167 rfl rfl
theorem ml_Bo_183 : Cond.methodLink RX4 183 M_Hi_takeBack.2.2.2.2.2 ∈ WS := ws_2 171 rfl rfl
theorem ml_La_64 : Cond.methodLink RL 64 M_Bo_behind.2.2.2.2.2 ∈ WS := ws_2 175 rfl rfl
theorem ml_Bo_186 : Cond.methodLink RX4 186 M_Si_copyFrom.2.2.2.2.2 ∈ WS := ws_2 179 rfl rfl
theorem ml_La_68 : Cond.methodLink RL 68 M_Bo_asleep.2.2.2.2.2 ∈ WS := ws_2 180 rfl rfl
theorem ml_La_72 : Cond.methodLink RL 72 M_Bo_rest.2.2.2.2.2 ∈ WS := ws_2 184 rfl rfl
theorem ml_Bo_188 : Cond.methodLink RX4 188 M_Si_isAsLateAs.2.2.2.2.2 ∈ WS := ws_2 188 rfl rfl
theorem ml_La_76 : Cond.methodLink RL 76 M_Bo_playAhead.2.2.2.2.2 ∈ WS := ws_2 192 rfl rfl
theorem ml_Bo_193 : Cond.methodLink RX4 193 M_Si_greatest.2.2.2.2.2 ∈ WS := ws_2 197 rfl rfl
theorem ml_Si_44 : Cond.methodLink RX3 44 M_Ma_abs.2.2.2.2.2 ∈ WS := ws_2 201 rfl rfl
theorem ml_La_80 : Cond.methodLink RL 80 M_Bo_seat.2.2.2.2.2 ∈ WS := ws_2 202 rfl rfl
theorem ml_Bo_196 : Cond.methodLink RX4 196 M_Bo_apartBySeat.2.2.2.2.2 ∈ WS := ws_2 206 rfl rfl
theorem ml_La_84 : Cond.methodLink RL 84 M_Bo_knowers.2.2.2.2.2 ∈ WS := ws_2 210 rfl rfl
theorem ml_Bo_199 : Cond.methodLink RX4 199 M_Bo_knowersOfSize.2.2.2.2.2 ∈ WS := ws_2 214 rfl rfl
theorem ml_La_88 : Cond.methodLink RL 88 M_Bo_pulls.2.2.2.2.2 ∈ WS := ws_2 218 rfl rfl
theorem ml_Bo_203 : Cond.methodLink RX4 203 M_Bo_paceWithout.2.2.2.2.2 ∈ WS := ws_2 222 rfl rfl
theorem ml_Bo_206 : Cond.methodLink RX4 206 M_Ch_leaveOut.2.2.2.2.2 ∈ WS := ws_2 226 rfl rfl
theorem ml_Bo_209 : Cond.methodLink RX4 209 M_Si_leaveOut.2.2.2.2.2 ∈ WS := ws_2 230 rfl rfl
theorem ml_La_92 : Cond.methodLink RL 92 M_Bo_change.2.2.2.2.2 ∈ WS := ws_2 235 rfl rfl
theorem ml_Bo_210 : Cond.methodLink RX4 210 M_Bo_apartByChange.2.2.2.2.2 ∈ WS := ws_2 239 rfl rfl
theorem ml_La_96 : Cond.methodLink RL 96 M_Bo_gaps.2.2.2.2.2 ∈ WS := ws_3 3 rfl rfl
theorem ml_La_100 : Cond.methodLink RL 100 M_Bo_hear.2.2.2.2.2 ∈ WS := ws_3 7 rfl rfl
theorem ml_La_105 : Cond.methodLink RL 105 M_Bo_forget.2.2.2.2.2 ∈ WS := ws_3 11 rfl rfl
theorem ml_La_109 : Cond.methodLink RL 109 M_Bo_waited.2.2.2.2.2 ∈ WS := ws_3 15 rfl rfl
theorem ml_Bo_213 : Cond.methodLink RX4 213 M_Bo_isAllHeardSo.2.2.2.2.2 ∈ WS := ws_3 19 rfl rfl
theorem ml_La_113 : Cond.methodLink RL 113 M_Bo_odds.2.2.2.2.2 ∈ WS := ws_3 23 rfl rfl
theorem ml_Bo_218 : Cond.methodLink RX4 218 M_Bo_apartByPlays.2.2.2.2.2 ∈ WS := ws_3 28 rfl rfl
theorem ml_Bo_221 : Cond.methodLink RX4 221 M_Bo_power.2.2.2.2.2 ∈ WS := ws_3 32 rfl rfl
theorem ml_Bo_225 : Cond.methodLink RX4 225 M_Bo_commonDivisor.2.2.2.2.2 ∈ WS := ws_3 35 rfl rfl
theorem ml_La_118 : Cond.methodLink RL 118 M_Bo_rate.2.2.2.2.2 ∈ WS := ws_3 38 rfl rfl
theorem ml_Bo_229 : Cond.methodLink RX4 229 M_Bo_rateFront.2.2.2.2.2 ∈ WS := ws_3 42 rfl rfl
theorem ml_Bo_244 : Cond.methodLink RX4 244 M_Bo_ratePew.2.2.2.2.2 ∈ WS := ws_3 47 rfl rfl
theorem ml_Bo_232 : Cond.methodLink RX4 232 M_Bo_rateBasses.2.2.2.2.2 ∈ WS := ws_3 51 rfl rfl
theorem ml_Bo_235 : Cond.methodLink RX4 235 M_Bo_rateWidows.2.2.2.2.2 ∈ WS := ws_3 56 rfl rfl
theorem ml_Bo_238 : Cond.methodLink RX4 238 M_Bo_rateBoys.2.2.2.2.2 ∈ WS := ws_3 61 rfl rfl
theorem ml_Bo_241 : Cond.methodLink RX4 241 M_Bo_rateStrangers.2.2.2.2.2 ∈ WS := ws_3 66 rfl rfl
theorem ml_La_122 : Cond.methodLink RL 122 M_Bo_keep.2.2.2.2.2 ∈ WS := ws_3 71 rfl rfl
theorem ml_La_126 : Cond.methodLink RL 126 M_Bo_back.2.2.2.2.2 ∈ WS := ws_3 75 rfl rfl
theorem ml_La_130 : Cond.methodLink RL 130 M_Bo_count.2.2.2.2.2 ∈ WS := ws_3 79 rfl rfl
theorem ml_La_134 : Cond.methodLink RL 134 M_Bo_trace.2.2.2.2.2 ∈ WS := ws_3 83 rfl rfl
theorem ml_La_12 : Cond.methodLink RL 12 M_Mo_init.2.2.2.2.2 ∈ WS := ws_3 89 rfl rfl
theorem ml_Mo_1 : Cond.methodLink RX5 1 objectInit ∈ WS := ws_3 92 rfl rfl
theorem ml_Mo_41 : Cond.methodLink RX5 41 M_Mo_clean.2.2.2.2.2 ∈ WS := ws_3 93 rfl rfl
theorem ml_La_17 : Cond.methodLink RL 17 M_Mo_type.2.2.2.2.2 ∈ WS := ws_3 148 rfl rfl
theorem ml_Mo_45 : Cond.methodLink RX5 45 M_Mo_in.2.2.2.2.2 ∈ WS := ws_3 153 rfl rfl
theorem ml_La_22 : Cond.methodLink RL 22 M_Mo_clear.2.2.2.2.2 ∈ WS := ws_3 158 rfl rfl
theorem ml_La_26 : Cond.methodLink RL 26 M_Mo_church.2.2.2.2.2 ∈ WS := ws_3 162 rfl rfl
theorem ml_Mo_63 : Cond.methodLink RX5 63 M_Mo_first.2.2.2.2.2 ∈ WS := ws_3 166 rfl rfl
theorem ml_Mo_88 : Cond.methodLink RX5 88 M_Mo_takesItem.2.2.2.2.2 ∈ WS := ws_3 170 rfl rfl
theorem ml_Mo_82 : Cond.methodLink RX5 82 M_Mo_takesPew.2.2.2.2.2 ∈ WS := ws_3 174 rfl rfl
theorem ml_Mo_71 : Cond.methodLink RX5 71 M_Mo_number.2.2.2.2.2 ∈ WS := ws_3 178 rfl rfl
theorem ml_Mo_75 : Cond.methodLink RX5 75 M_Mo_ends.2.2.2.2.2 ∈ WS := ws_3 184 rfl rfl
theorem ml_Mo_85 : Cond.methodLink RX5 85 M_Mo_takesOne.2.2.2.2.2 ∈ WS := ws_3 188 rfl rfl
theorem ml_Mo_92 : Cond.methodLink RX5 92 M_Mo_copies.2.2.2.2.2 ∈ WS := ws_3 192 rfl rfl
theorem ml_La_31 : Cond.methodLink RL 31 M_Mo_pew.2.2.2.2.2 ∈ WS := ws_3 195 rfl rfl
theorem ml_Mo_102 : Cond.methodLink RX5 102 M_Mo_isPew.2.2.2.2.2 ∈ WS := ws_3 199 rfl rfl
theorem ml_La_35 : Cond.methodLink RL 35 M_Mo_now.2.2.2.2.2 ∈ WS := ws_3 204 rfl rfl
theorem ml_Mo_108 : Cond.methodLink RX5 108 M_Mo_apart.2.2.2.2.2 ∈ WS := ws_3 209 rfl rfl
theorem ml_La_39 : Cond.methodLink RL 39 M_Mo_line.2.2.2.2.2 ∈ WS := ws_3 212 rfl rfl
theorem ml_Mo_121 : Cond.methodLink RX5 121 M_Mo_remember.2.2.2.2.2 ∈ WS := ws_3 217 rfl rfl
theorem ml_Mo_124 : Cond.methodLink RX5 124 M_Mo_sings.2.2.2.2.2 ∈ WS := ws_3 221 rfl rfl
theorem ml_Mo_116 : Cond.methodLink RX5 116 M_Mo_lateThen.2.2.2.2.2 ∈ WS := ws_3 225 rfl rfl
theorem ml_Mo_112 : Cond.methodLink RX5 112 M_Mo_from.2.2.2.2.2 ∈ WS := ws_3 228 rfl rfl
theorem ml_La_43 : Cond.methodLink RL 43 M_Mo_verse.2.2.2.2.2 ∈ WS := ws_3 231 rfl rfl
theorem ml_Mo_127 : Cond.methodLink RX5 127 M_Mo_rests.2.2.2.2.2 ∈ WS := ws_3 235 rfl rfl
theorem ml_La_47 : Cond.methodLink RL 47 M_Mo_ahead.2.2.2.2.2 ∈ WS := ws_3 238 rfl rfl
theorem ml_Mo_133 : Cond.methodLink RX5 133 M_Mo_puts.2.2.2.2.2 ∈ WS := ws_4 3 rfl rfl
theorem ml_La_51 : Cond.methodLink RL 51 M_Mo_choir.2.2.2.2.2 ∈ WS := ws_4 7 rfl rfl
theorem ml_La_55 : Cond.methodLink RL 55 M_Mo_knows.2.2.2.2.2 ∈ WS := ws_4 11 rfl rfl
theorem ml_Mo_137 : Cond.methodLink RX5 137 M_Mo_isTwo.2.2.2.2.2 ∈ WS := ws_4 15 rfl rfl
theorem ml_Mo_140 : Cond.methodLink RX5 140 M_Mo_bits.2.2.2.2.2 ∈ WS := ws_4 18 rfl rfl
theorem ml_La_59 : Cond.methodLink RL 59 M_Mo_waits.2.2.2.2.2 ∈ WS := ws_4 21 rfl rfl
theorem ml_La_63 : Cond.methodLink RL 63 M_Mo_undo.2.2.2.2.2 ∈ WS := ws_4 26 rfl rfl
theorem ml_La_67 : Cond.methodLink RL 67 M_Mo_behind.2.2.2.2.2 ∈ WS := ws_4 30 rfl rfl
theorem ml_Mo_148 : Cond.methodLink RX5 148 M_Mo_asNow.2.2.2.2.2 ∈ WS := ws_4 35 rfl rfl
theorem ml_Mo_151 : Cond.methodLink RX5 151 M_Mo_go.2.2.2.2.2 ∈ WS := ws_4 39 rfl rfl
theorem ml_La_71 : Cond.methodLink RL 71 M_Mo_asleep.2.2.2.2.2 ∈ WS := ws_4 43 rfl rfl
theorem ml_La_75 : Cond.methodLink RL 75 M_Mo_rest.2.2.2.2.2 ∈ WS := ws_4 48 rfl rfl
theorem ml_La_79 : Cond.methodLink RL 79 M_Mo_playAhead.2.2.2.2.2 ∈ WS := ws_4 52 rfl rfl
theorem ml_Mo_159 : Cond.methodLink RX5 159 M_Mo_isSpan.2.2.2.2.2 ∈ WS := ws_4 56 rfl rfl
theorem ml_Mo_163 : Cond.methodLink RX5 163 M_Mo_greatest.2.2.2.2.2 ∈ WS := ws_4 61 rfl rfl
theorem ml_La_83 : Cond.methodLink RL 83 M_Mo_seat.2.2.2.2.2 ∈ WS := ws_4 64 rfl rfl
theorem ml_La_87 : Cond.methodLink RL 87 M_Mo_knowers.2.2.2.2.2 ∈ WS := ws_4 68 rfl rfl
theorem ml_La_91 : Cond.methodLink RL 91 M_Mo_pulls.2.2.2.2.2 ∈ WS := ws_4 73 rfl rfl
theorem ml_Mo_168 : Cond.methodLink RX5 168 M_Mo_without.2.2.2.2.2 ∈ WS := ws_4 77 rfl rfl
theorem ml_La_95 : Cond.methodLink RL 95 M_Mo_change.2.2.2.2.2 ∈ WS := ws_4 81 rfl rfl
theorem ml_La_99 : Cond.methodLink RL 99 M_Mo_gaps.2.2.2.2.2 ∈ WS := ws_4 85 rfl rfl
theorem ml_La_104 : Cond.methodLink RL 104 M_Mo_hear.2.2.2.2.2 ∈ WS := ws_4 89 rfl rfl
theorem ml_La_108 : Cond.methodLink RL 108 M_Mo_forget.2.2.2.2.2 ∈ WS := ws_4 95 rfl rfl
theorem ml_La_112 : Cond.methodLink RL 112 M_Mo_waited.2.2.2.2.2 ∈ WS := ws_4 99 rfl rfl
theorem ml_Mo_175 : Cond.methodLink RX5 175 M_Mo_isSo.2.2.2.2.2 ∈ WS := ws_4 103 rfl rfl
theorem ml_La_117 : Cond.methodLink RL 117 M_Mo_odds.2.2.2.2.2 ∈ WS := ws_4 107 rfl rfl
theorem ml_La_121 : Cond.methodLink RL 121 M_Mo_rate.2.2.2.2.2 ∈ WS := ws_4 112 rfl rfl
theorem ml_La_125 : Cond.methodLink RL 125 M_Mo_keep.2.2.2.2.2 ∈ WS := ws_4 121 rfl rfl
theorem ml_La_129 : Cond.methodLink RL 129 M_Mo_back.2.2.2.2.2 ∈ WS := ws_4 125 rfl rfl
theorem ml_La_133 : Cond.methodLink RL 133 M_Mo_count.2.2.2.2.2 ∈ WS := ws_4 129 rfl rfl
theorem ml_La_138 : Cond.methodLink RL 138 M_Mo_trace.2.2.2.2.2 ∈ WS := ws_4 133 rfl rfl
theorem nl_Bo_9 : Cond.methodLinkNest RX4 9 M_Re_init.2.2.2.2.2 "BehindOrgan" ∈ tables_1 := List.mem_of_getElem? (i := 19) rfl
theorem nl_Bo_28 : Cond.methodLinkNest RX4 28 M_Si_init.2.2.2.2.2 "BehindOrgan" ∈ tables_1 := List.mem_of_getElem? (i := 109) rfl
theorem nl_Hi_17 : Cond.methodLinkNest RX1 17 M_Si_init.2.2.2.2.2 "BehindOrgan" ∈ tables_1 := List.mem_of_getElem? (i := 157) rfl
theorem nl_Re_97 : Cond.methodLinkNest RX2 97 M_Bo_within.2.2.2.2.2 "BehindOrgan" ∈ tables_1 := List.mem_of_getElem? (i := 266) rfl
theorem nl_Ch_92 : Cond.methodLinkNest RX0 92 M_Bo_divided.2.2.2.2.2 "BehindOrgan" ∈ tables_1 := List.mem_of_getElem? (i := 364) rfl
theorem nl_Si_48 : Cond.methodLinkNest RX3 48 M_Bo_within.2.2.2.2.2 "BehindOrgan" ∈ tables_1 := List.mem_of_getElem? (i := 474) rfl
theorem fl_Re_9 : FL RX2 9 2 0 := ⟨(RX2, TX2, 9), rfl, by decide, ws_1 23 rfl rfl⟩
theorem fl_Re_15 : FL RX2 15 2 1 := ⟨(RX2, TX2, 9), rfl, by decide, ws_1 24 rfl rfl⟩
theorem fl_Bo_73 : FL RX4 73 2 1 := ⟨(RX2, TX2, 9), rfl, by decide, ws_1 25 rfl rfl⟩
theorem fl_Re_40 : FL RX2 40 2 2 := ⟨(RX2, TX2, 9), rfl, by decide, ws_1 26 rfl rfl⟩
theorem fl_Re_47 : FL RX2 47 2 3 := ⟨(RX2, TX2, 9), rfl, by decide, ws_1 27 rfl rfl⟩
theorem fl_Re_76 : FL RX2 76 2 4 := ⟨(RX2, TX2, 9), rfl, by decide, ws_1 28 rfl rfl⟩
theorem fl_Re_24 : FL RX2 24 2 5 := ⟨(RX2, TX2, 9), rfl, by decide, ws_1 29 rfl rfl⟩
theorem fl_Re_27 : FL RX2 27 2 6 := ⟨(RX2, TX2, 9), rfl, by decide, ws_1 30 rfl rfl⟩
theorem fl_Re_31 : FL RX2 31 2 7 := ⟨(RX2, TX2, 9), rfl, by decide, ws_1 31 rfl rfl⟩
theorem fl_Re_34 : FL RX2 34 2 8 := ⟨(RX2, TX2, 9), rfl, by decide, ws_1 32 rfl rfl⟩
theorem fl_Ch_9 : FL RX0 9 0 0 := ⟨(RX0, TX0, 9), rfl, by decide, ws_1 63 rfl rfl⟩
theorem fl_Re_73 : FL RX2 73 0 0 := ⟨(RX0, TX0, 9), rfl, by decide, ws_1 64 rfl rfl⟩
theorem fl_Bo_109 : FL RX4 109 0 0 := ⟨(RX0, TX0, 9), rfl, by decide, ws_1 65 rfl rfl⟩
theorem fl_Ch_15 : FL RX0 15 0 1 := ⟨(RX0, TX0, 9), rfl, by decide, ws_1 66 rfl rfl⟩
theorem fl_Re_79 : FL RX2 79 0 1 := ⟨(RX0, TX0, 9), rfl, by decide, ws_1 67 rfl rfl⟩
theorem fl_Bo_112 : FL RX4 112 0 1 := ⟨(RX0, TX0, 9), rfl, by decide, ws_1 68 rfl rfl⟩
theorem fl_Ch_18 : FL RX0 18 0 2 := ⟨(RX0, TX0, 9), rfl, by decide, ws_1 69 rfl rfl⟩
theorem fl_Re_82 : FL RX2 82 0 2 := ⟨(RX0, TX0, 9), rfl, by decide, ws_1 70 rfl rfl⟩
theorem fl_Bo_115 : FL RX4 115 0 2 := ⟨(RX0, TX0, 9), rfl, by decide, ws_1 71 rfl rfl⟩
theorem fl_Ch_21 : FL RX0 21 0 3 := ⟨(RX0, TX0, 9), rfl, by decide, ws_1 72 rfl rfl⟩
theorem fl_Re_85 : FL RX2 85 0 3 := ⟨(RX0, TX0, 9), rfl, by decide, ws_1 73 rfl rfl⟩
theorem fl_Bo_118 : FL RX4 118 0 3 := ⟨(RX0, TX0, 9), rfl, by decide, ws_1 74 rfl rfl⟩
theorem fl_Ch_30 : FL RX0 30 0 4 := ⟨(RX0, TX0, 9), rfl, by decide, ws_1 75 rfl rfl⟩
theorem fl_Re_50 : FL RX2 50 0 4 := ⟨(RX0, TX0, 9), rfl, by decide, ws_1 76 rfl rfl⟩
theorem fl_Bo_146 : FL RX4 146 0 4 := ⟨(RX0, TX0, 9), rfl, by decide, ws_1 77 rfl rfl⟩
theorem fl_Ch_34 : FL RX0 34 0 5 := ⟨(RX0, TX0, 9), rfl, by decide, ws_1 78 rfl rfl⟩
theorem fl_Bo_93 : FL RX4 93 0 5 := ⟨(RX0, TX0, 9), rfl, by decide, ws_1 79 rfl rfl⟩
theorem fl_Re_88 : FL RX2 88 0 5 := ⟨(RX0, TX0, 9), rfl, by decide, ws_1 80 rfl rfl⟩
theorem fl_Ch_37 : FL RX0 37 0 6 := ⟨(RX0, TX0, 9), rfl, by decide, ws_1 81 rfl rfl⟩
theorem fl_Re_91 : FL RX2 91 0 6 := ⟨(RX0, TX0, 9), rfl, by decide, ws_1 82 rfl rfl⟩
theorem fl_Bo_160 : FL RX4 160 0 6 := ⟨(RX0, TX0, 9), rfl, by decide, ws_1 83 rfl rfl⟩
theorem fl_Ch_40 : FL RX0 40 0 7 := ⟨(RX0, TX0, 9), rfl, by decide, ws_1 84 rfl rfl⟩
theorem fl_Re_94 : FL RX2 94 0 7 := ⟨(RX0, TX0, 9), rfl, by decide, ws_1 85 rfl rfl⟩
theorem fl_Bo_167 : FL RX4 167 0 7 := ⟨(RX0, TX0, 9), rfl, by decide, ws_1 86 rfl rfl⟩
theorem fl_Ch_24 : FL RX0 24 0 8 := ⟨(RX0, TX0, 9), rfl, by decide, ws_1 87 rfl rfl⟩
theorem fl_Si_9 : FL RX3 9 3 0 := ⟨(RX3, TX3, 7), rfl, by decide, ws_1 114 rfl rfl⟩
theorem fl_Bo_121 : FL RX4 121 3 0 := ⟨(RX3, TX3, 7), rfl, by decide, ws_1 115 rfl rfl⟩
theorem fl_Ch_61 : FL RX0 61 3 0 := ⟨(RX3, TX3, 7), rfl, by decide, ws_1 116 rfl rfl⟩
theorem fl_Si_20 : FL RX3 20 3 1 := ⟨(RX3, TX3, 7), rfl, by decide, ws_1 117 rfl rfl⟩
theorem fl_Bo_137 : FL RX4 137 3 1 := ⟨(RX3, TX3, 7), rfl, by decide, ws_1 118 rfl rfl⟩
theorem fl_Ch_86 : FL RX0 86 3 1 := ⟨(RX3, TX3, 7), rfl, by decide, ws_1 119 rfl rfl⟩
theorem fl_Si_16 : FL RX3 16 3 2 := ⟨(RX3, TX3, 7), rfl, by decide, ws_1 120 rfl rfl⟩
theorem fl_Bo_140 : FL RX4 140 3 2 := ⟨(RX3, TX3, 7), rfl, by decide, ws_1 121 rfl rfl⟩
theorem fl_Ch_66 : FL RX0 66 3 2 := ⟨(RX3, TX3, 7), rfl, by decide, ws_1 122 rfl rfl⟩
theorem fl_Si_23 : FL RX3 23 3 3 := ⟨(RX3, TX3, 7), rfl, by decide, ws_1 123 rfl rfl⟩
theorem fl_Bo_175 : FL RX4 175 3 3 := ⟨(RX3, TX3, 7), rfl, by decide, ws_1 124 rfl rfl⟩
theorem fl_Si_26 : FL RX3 26 3 4 := ⟨(RX3, TX3, 7), rfl, by decide, ws_1 125 rfl rfl⟩
theorem fl_Bo_143 : FL RX4 143 3 4 := ⟨(RX3, TX3, 7), rfl, by decide, ws_1 126 rfl rfl⟩
theorem fl_Ch_104 : FL RX0 104 3 4 := ⟨(RX3, TX3, 7), rfl, by decide, ws_1 127 rfl rfl⟩
theorem fl_Si_29 : FL RX3 29 3 5 := ⟨(RX3, TX3, 7), rfl, by decide, ws_1 128 rfl rfl⟩
theorem fl_Bo_134 : FL RX4 134 3 5 := ⟨(RX3, TX3, 7), rfl, by decide, ws_1 129 rfl rfl⟩
theorem fl_Ch_107 : FL RX0 107 3 5 := ⟨(RX3, TX3, 7), rfl, by decide, ws_1 130 rfl rfl⟩
theorem fl_Si_32 : FL RX3 32 3 6 := ⟨(RX3, TX3, 7), rfl, by decide, ws_1 131 rfl rfl⟩
theorem fl_Bo_131 : FL RX4 131 3 6 := ⟨(RX3, TX3, 7), rfl, by decide, ws_1 132 rfl rfl⟩
theorem fl_Ch_76 : FL RX0 76 3 6 := ⟨(RX3, TX3, 7), rfl, by decide, ws_1 133 rfl rfl⟩
theorem fl_Hi_11 : FL RX1 11 1 0 := ⟨(RX1, TX1, 3), rfl, by decide, ws_1 158 rfl rfl⟩
theorem fl_Hi_18 : FL RX1 18 1 1 := ⟨(RX1, TX1, 3), rfl, by decide, ws_1 159 rfl rfl⟩
theorem fl_Hi_26 : FL RX1 26 1 2 := ⟨(RX1, TX1, 3), rfl, by decide, ws_1 160 rfl rfl⟩
theorem fl_Bo_100 : FL RX4 100 1 2 := ⟨(RX1, TX1, 3), rfl, by decide, ws_1 161 rfl rfl⟩
theorem fl_Bo_10 : FL RX4 10 4 0 := ⟨(RX4, TX4, 14), rfl, by decide, ws_1 169 rfl rfl⟩
theorem fl_Bo_19 : FL RX4 19 4 1 := ⟨(RX4, TX4, 14), rfl, by decide, ws_1 170 rfl rfl⟩
theorem fl_Bo_23 : FL RX4 23 4 2 := ⟨(RX4, TX4, 14), rfl, by decide, ws_1 171 rfl rfl⟩
theorem fl_Bo_29 : FL RX4 29 4 3 := ⟨(RX4, TX4, 14), rfl, by decide, ws_1 172 rfl rfl⟩
theorem fl_Bo_33 : FL RX4 33 4 4 := ⟨(RX4, TX4, 14), rfl, by decide, ws_1 173 rfl rfl⟩
theorem fl_Bo_36 : FL RX4 36 4 5 := ⟨(RX4, TX4, 14), rfl, by decide, ws_1 174 rfl rfl⟩
theorem fl_Bo_42 : FL RX4 42 4 6 := ⟨(RX4, TX4, 14), rfl, by decide, ws_1 175 rfl rfl⟩
theorem fl_Bo_46 : FL RX4 46 4 7 := ⟨(RX4, TX4, 14), rfl, by decide, ws_1 176 rfl rfl⟩
theorem fl_Bo_50 : FL RX4 50 4 8 := ⟨(RX4, TX4, 14), rfl, by decide, ws_1 177 rfl rfl⟩
theorem fl_Bo_54 : FL RX4 54 4 9 := ⟨(RX4, TX4, 14), rfl, by decide, ws_1 178 rfl rfl⟩
theorem fl_Bo_58 : FL RX4 58 4 10 := ⟨(RX4, TX4, 14), rfl, by decide, ws_1 179 rfl rfl⟩
theorem fl_Bo_61 : FL RX4 61 4 11 := ⟨(RX4, TX4, 14), rfl, by decide, ws_1 180 rfl rfl⟩
theorem fl_Bo_103 : FL RX4 103 4 12 := ⟨(RX4, TX4, 14), rfl, by decide, ws_1 181 rfl rfl⟩
theorem fl_Bo_247 : FL RX4 247 4 13 := ⟨(RX4, TX4, 14), rfl, by decide, ws_1 182 rfl rfl⟩
theorem fl_Mo_7 : FL RX5 7 5 0 := ⟨(RX5, TX5, 17), rfl, by decide, ws_3 96 rfl rfl⟩
theorem fl_Mo_13 : FL RX5 13 5 1 := ⟨(RX5, TX5, 17), rfl, by decide, ws_3 97 rfl rfl⟩
theorem fl_Mo_96 : FL RX5 96 5 2 := ⟨(RX5, TX5, 17), rfl, by decide, ws_3 98 rfl rfl⟩
theorem fl_Mo_16 : FL RX5 16 5 3 := ⟨(RX5, TX5, 17), rfl, by decide, ws_3 99 rfl rfl⟩
theorem fl_Mo_19 : FL RX5 19 5 4 := ⟨(RX5, TX5, 17), rfl, by decide, ws_3 100 rfl rfl⟩
theorem fl_Mo_23 : FL RX5 23 5 5 := ⟨(RX5, TX5, 17), rfl, by decide, ws_3 101 rfl rfl⟩
theorem fl_Mo_52 : FL RX5 52 5 6 := ⟨(RX5, TX5, 17), rfl, by decide, ws_3 102 rfl rfl⟩
theorem fl_Mo_26 : FL RX5 26 5 7 := ⟨(RX5, TX5, 17), rfl, by decide, ws_3 103 rfl rfl⟩
theorem fl_Mo_99 : FL RX5 99 5 8 := ⟨(RX5, TX5, 17), rfl, by decide, ws_3 104 rfl rfl⟩
theorem fl_Mo_182 : FL RX5 182 5 9 := ⟨(RX5, TX5, 17), rfl, by decide, ws_3 105 rfl rfl⟩
theorem fl_Mo_29 : FL RX5 29 5 10 := ⟨(RX5, TX5, 17), rfl, by decide, ws_3 106 rfl rfl⟩
theorem fl_Mo_57 : FL RX5 57 5 11 := ⟨(RX5, TX5, 17), rfl, by decide, ws_3 107 rfl rfl⟩
theorem fl_Mo_60 : FL RX5 60 5 12 := ⟨(RX5, TX5, 17), rfl, by decide, ws_3 108 rfl rfl⟩
theorem fl_Mo_79 : FL RX5 79 5 13 := ⟨(RX5, TX5, 17), rfl, by decide, ws_3 109 rfl rfl⟩
theorem fl_Mo_32 : FL RX5 32 5 14 := ⟨(RX5, TX5, 17), rfl, by decide, ws_3 110 rfl rfl⟩
theorem fl_Mo_35 : FL RX5 35 5 15 := ⟨(RX5, TX5, 17), rfl, by decide, ws_3 111 rfl rfl⟩
theorem fl_Mo_38 : FL RX5 38 5 16 := ⟨(RX5, TX5, 17), rfl, by decide, ws_3 112 rfl rfl⟩
theorem kc_Si_15 : Cond.constant RX3 15 (-1000009) ∈ WS := ws_1 113 rfl rfl
theorem kc_Bo_68 : Cond.constant RX4 68 (-1000001) ∈ WS := ws_1 220 rfl rfl
theorem kc_Bo_77 : Cond.constant RX4 77 (-1000003) ∈ WS := ws_1 225 rfl rfl
theorem kc_Bo_152 : Cond.constant RX4 152 (-1000002) ∈ WS := ws_2 93 rfl rfl
theorem kc_Bo_174 : Cond.constant RX4 174 (-1000009) ∈ WS := ws_2 152 rfl rfl
theorem kc_In_265 : Cond.constant RJ6 265 (1431655765) ∈ WS := ws_2 160 rfl rfl
theorem kc_In_266 : Cond.constant RJ6 266 (858993459) ∈ WS := ws_2 161 rfl rfl
theorem kc_In_267 : Cond.constant RJ6 267 (252645135) ∈ WS := ws_2 162 rfl rfl
theorem kc_Bo_192 : Cond.constant RX4 192 (1000000) ∈ WS := ws_2 196 rfl rfl
theorem kc_Mo_51 : Cond.constant RX5 51 (-1000001) ∈ WS := ws_3 156 rfl rfl
theorem kc_Mo_56 : Cond.constant RX5 56 (-1000003) ∈ WS := ws_3 157 rfl rfl
theorem kc_Mo_107 : Cond.constant RX5 107 (-1000009) ∈ WS := ws_3 208 rfl rfl
theorem kc_Mo_120 : Cond.constant RX5 120 (-1000002) ∈ WS := ws_3 216 rfl rfl
theorem kc_Mo_162 : Cond.constant RX5 162 (1000000) ∈ WS := ws_4 60 rfl rfl
theorem kl_Bo_216 : Cond.constantLong RX4 216 (-1000001) ∈ WS := ws_3 27 rfl rfl
theorem kl_Bo_251 : Cond.constantLong RX4 251 (10) ∈ WS := ws_3 46 rfl rfl
theorem kl_Bo_253 : Cond.constantLong RX4 253 (100) ∈ WS := ws_3 55 rfl rfl
theorem kl_Bo_255 : Cond.constantLong RX4 255 (1000) ∈ WS := ws_3 60 rfl rfl
theorem kl_Bo_257 : Cond.constantLong RX4 257 (10000) ∈ WS := ws_3 65 rfl rfl
theorem kl_Bo_259 : Cond.constantLong RX4 259 (100000) ∈ WS := ws_3 70 rfl rfl
theorem kl_Mo_49 : Cond.constantLong RX5 49 (255) ∈ WS := ws_3 152 rfl rfl
theorem kl_Mo_67 : Cond.constantLong RX5 67 (48) ∈ WS := ws_3 182 rfl rfl
theorem kl_Mo_69 : Cond.constantLong RX5 69 (57) ∈ WS := ws_3 183 rfl rfl
theorem kl_Mo_105 : Cond.constantLong RX5 105 (6) ∈ WS := ws_3 203 rfl rfl
theorem kl_Mo_131 : Cond.constantLong RX5 131 (20) ∈ WS := ws_4 2 rfl rfl
theorem kl_Mo_144 : Cond.constantLong RX5 144 (10) ∈ WS := ws_4 25 rfl rfl
theorem kl_Mo_146 : Cond.constantLong RX5 146 (60) ∈ WS := ws_4 34 rfl rfl
theorem kl_Mo_155 : Cond.constantLong RX5 155 (9999) ∈ WS := ws_4 47 rfl rfl
theorem kl_Mo_157 : Cond.constantLong RX5 157 (30) ∈ WS := ws_4 59 rfl rfl
theorem kl_Mo_166 : Cond.constantLong RX5 166 (99) ∈ WS := ws_4 72 rfl rfl
theorem kl_Mo_171 : Cond.constantLong RX5 171 (-99) ∈ WS := ws_4 93 rfl rfl
theorem kl_Mo_173 : Cond.constantLong RX5 173 (999) ∈ WS := ws_4 94 rfl rfl
theorem kl_Mo_178 : Cond.constantLong RX5 178 (-1000001) ∈ WS := ws_4 111 rfl rfl
theorem kl_Mo_180 : Cond.constantLong RX5 180 (5) ∈ WS := ws_4 116 rfl rfl
theorem kl_Mo_186 : Cond.constantLong RX5 186 (100) ∈ WS := ws_4 117 rfl rfl
theorem kl_Mo_188 : Cond.constantLong RX5 188 (1010) ∈ WS := ws_4 118 rfl rfl
theorem kl_Mo_190 : Cond.constantLong RX5 190 (10100) ∈ WS := ws_4 119 rfl rfl
theorem kl_Mo_192 : Cond.constantLong RX5 192 (100000) ∈ WS := ws_4 120 rfl rfl
theorem cl_La_7 : Cond.classLink RL 7 RX4 ∈ WS := ws_1 9 rfl rfl
theorem cl_Bo_7 : Cond.classLink RX4 7 RX2 ∈ WS := ws_1 17 rfl rfl
theorem cl_Bo_16 : Cond.classLink RX4 16 RX0 ∈ WS := ws_1 53 rfl rfl
theorem cl_Bo_26 : Cond.classLink RX4 26 RX3 ∈ WS := ws_1 107 rfl rfl
theorem cl_Bo_39 : Cond.classLink RX4 39 RX1 ∈ WS := ws_1 149 rfl rfl
theorem cl_Hi_9 : Cond.classLink RX1 9 RX3 ∈ WS := ws_1 155 rfl rfl
theorem cl_La_10 : Cond.classLink RL 10 RX5 ∈ WS := ws_3 87 rfl rfl
theorem in_Bo : Cond.instantiable RX4 14 ∈ WS := ws_1 10 rfl rfl
theorem in_Re : Cond.instantiable RX2 9 ∈ WS := ws_1 18 rfl rfl
theorem in_Ch : Cond.instantiable RX0 9 ∈ WS := ws_1 54 rfl rfl
theorem in_Si : Cond.instantiable RX3 7 ∈ WS := ws_1 108 rfl rfl
theorem in_Hi : Cond.instantiable RX1 3 ∈ WS := ws_1 150 rfl rfl
theorem in_Mo : Cond.instantiable RX5 17 ∈ WS := ws_3 88 rfl rfl
theorem ii_La : Cond.initialized RL ∈ WS := ws_1 0 rfl rfl
theorem ii_Bo : Cond.initialized RX4 ∈ WS := ws_1 1 rfl rfl
theorem ii_Re : Cond.initialized RX2 ∈ WS := ws_1 2 rfl rfl
theorem ii_Ch : Cond.initialized RX0 ∈ WS := ws_1 3 rfl rfl
theorem ii_Si : Cond.initialized RX3 ∈ WS := ws_1 4 rfl rfl
theorem ii_Hi : Cond.initialized RX1 ∈ WS := ws_1 5 rfl rfl
theorem ii_Mo : Cond.initialized RX5 ∈ WS := ws_1 6 rfl rfl
theorem ii_Ma : Cond.initialized RJ9 ∈ WS := ws_1 7 rfl rfl
theorem ii_In : Cond.initialized RJ6 ∈ WS := ws_1 8 rfl rfl
