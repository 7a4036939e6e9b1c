/-! names: classes, fields, methods (printed by program) -/
def xtb : List Cond := lw_tbl.filter goodWord
theorem xt {w : Cond} (i : Nat) (h : tables_1[i]? = some w) (g : goodWord w = true) : w ∈ xtb := List.mem_filter.mpr ⟨List.mem_append_right _ (List.mem_of_getElem? h), g⟩
theorem xp {w : Cond} (i : Nat) (h : (k2_sels lw_privs)[i]? = some w) (g : goodWord w = true) : w ∈ xtb := List.mem_filter.mpr ⟨List.mem_append_left _ (List.mem_of_getElem? h), g⟩
theorem ab_good : ∀ w ∈ xtb, goodWord w = true := fun w h => (List.mem_filter.mp h).2
def RX0 : String := "RiverJustifier$BestWay"
def RX1 : String := "RiverJustifier$Layout"
def RX2 : String := "RiverJustifier$LineRules"
def RX3 : String := "RiverJustifier$Order"
def RX4 : String := "RiverJustifier$Paragraph"
def RX5 : String := "RiverJustifier$Rivers"
def RX6 : String := "RiverJustifier$Settings"
def RX7 : String := "RiverJustifier$Sign"
def RX8 : String := "RiverJustifier$Text"
def RX9 : String := "RiverJustifier"
def RX10 : String := "RiverJustifierModel"
def RJ0 : String := "java/lang/String"
def RJ1 : String := "java/lang/StringLatin1"
def RJ3 : String := "jdk/internal/util/Preconditions"
def RL : String := "RiverJustifierLaw"
def TX0 : u_T := fun k => match k with
  | 0 => ("RiverJustifier$BestWay", "paragraph", "LRiverJustifier$Paragraph;", true)
  | 1 => ("RiverJustifier$BestWay", "rules", "LRiverJustifier$LineRules;", true)
  | 2 => ("RiverJustifier$BestWay", "sums", "[I", true)
  | _ => ("RiverJustifier$BestWay", "lasts", "[I", true)
def tyX0 : Nat → FieldType := fun k => match k with
  | 0 => .object "RiverJustifier$Paragraph"
  | 1 => .object "RiverJustifier$LineRules"
  | 2 => .array .int
  | _ => .array .int
theorem nmX0 : ∀ a, a < 4 → ∀ b, b < 4 → a ≠ b → (TX0 a).2.1 ≠ (TX0 b).2.1 := by decide +kernel
theorem tyX0_ok : ∀ k, k < 4 → parseFieldDescriptor (TX0 k).2.2.1 = some (tyX0 k) := by decide +kernel
theorem inX0 : ∀ w ∈ u_ws RX0 TX0 4, w ∈ xtb := by
  intro w hw
  refine List.mem_filter.mpr ⟨List.mem_append_right _ ?_, ?_⟩
  · exact (by decide +kernel : ∀ w ∈ u_ws RX0 TX0 4, w ∈ tables_1) w hw
  · exact (by decide +kernel : ∀ w ∈ u_ws RX0 TX0 4, goodWord w = true) w hw
def TX1 : u_T := fun k => match k with
  | 0 => ("RiverJustifier$Layout", "paragraph", "LRiverJustifier$Paragraph;", true)
  | 1 => ("RiverJustifier$Layout", "settings", "LRiverJustifier$Settings;", true)
  | 2 => ("RiverJustifier$Layout", "rules", "LRiverJustifier$LineRules;", true)
  | 3 => ("RiverJustifier$Layout", "bestWay", "LRiverJustifier$BestWay;", true)
  | 4 => ("RiverJustifier$Layout", "lines", "I", false)
  | 5 => ("RiverJustifier$Layout", "demerits", "I", false)
  | 6 => ("RiverJustifier$Layout", "firstWords", "[I", true)
  | 7 => ("RiverJustifier$Layout", "lineOf", "[I", true)
  | 8 => ("RiverJustifier$Layout", "spaceLines", "[I", true)
  | 9 => ("RiverJustifier$Layout", "begins", "[I", true)
  | 10 => ("RiverJustifier$Layout", "spaceWidths", "[I", true)
  | _ => ("RiverJustifier$Layout", "rivers", "LRiverJustifier$Rivers;", true)
def tyX1 : Nat → FieldType := fun k => match k with
  | 0 => .object "RiverJustifier$Paragraph"
  | 1 => .object "RiverJustifier$Settings"
  | 2 => .object "RiverJustifier$LineRules"
  | 3 => .object "RiverJustifier$BestWay"
  | 4 => .int
  | 5 => .int
  | 6 => .array .int
  | 7 => .array .int
  | 8 => .array .int
  | 9 => .array .int
  | 10 => .array .int
  | _ => .object "RiverJustifier$Rivers"
theorem nmX1 : ∀ a, a < 12 → ∀ b, b < 12 → a ≠ b → (TX1 a).2.1 ≠ (TX1 b).2.1 := by decide +kernel
theorem tyX1_ok : ∀ k, k < 12 → parseFieldDescriptor (TX1 k).2.2.1 = some (tyX1 k) := by decide +kernel
theorem inX1 : ∀ w ∈ u_ws RX1 TX1 12, w ∈ xtb := by
  intro w hw
  refine List.mem_filter.mpr ⟨List.mem_append_right _ ?_, ?_⟩
  · exact (by decide +kernel : ∀ w ∈ u_ws RX1 TX1 12, w ∈ tables_1) w hw
  · exact (by decide +kernel : ∀ w ∈ u_ws RX1 TX1 12, goodWord w = true) w hw
def TX2 : u_T := fun k => match k with
  | 0 => ("RiverJustifier$LineRules", "paragraph", "LRiverJustifier$Paragraph;", true)
  | 1 => ("RiverJustifier$LineRules", "settings", "LRiverJustifier$Settings;", true)
  | 2 => ("RiverJustifier$LineRules", "wordSums", "[I", true)
  | 3 => ("RiverJustifier$LineRules", "naturalSums", "[I", true)
  | 4 => ("RiverJustifier$LineRules", "stretchSums", "[I", true)
  | 5 => ("RiverJustifier$LineRules", "shrinkSums", "[I", true)
  | 6 => ("RiverJustifier$LineRules", "leftHangs", "[I", true)
  | _ => ("RiverJustifier$LineRules", "rightHangs", "[I", true)
def tyX2 : Nat → FieldType := fun k => match k with
  | 0 => .object "RiverJustifier$Paragraph"
  | 1 => .object "RiverJustifier$Settings"
  | 2 => .array .int
  | 3 => .array .int
  | 4 => .array .int
  | 5 => .array .int
  | 6 => .array .int
  | _ => .array .int
theorem nmX2 : ∀ a, a < 8 → ∀ b, b < 8 → a ≠ b → (TX2 a).2.1 ≠ (TX2 b).2.1 := by decide +kernel
theorem tyX2_ok : ∀ k, k < 8 → parseFieldDescriptor (TX2 k).2.2.1 = some (tyX2 k) := by decide +kernel
theorem inX2 : ∀ w ∈ u_ws RX2 TX2 8, w ∈ xtb := by
  intro w hw
  refine List.mem_filter.mpr ⟨List.mem_append_right _ ?_, ?_⟩
  · exact (by decide +kernel : ∀ w ∈ u_ws RX2 TX2 8, w ∈ tables_1) w hw
  · exact (by decide +kernel : ∀ w ∈ u_ws RX2 TX2 8, goodWord w = true) w hw
def TX3 : u_T := fun k => match k with
  | 0 => ("RiverJustifier$Order", "numbers", "[I", true)
  | 1 => ("RiverJustifier$Order", "subject", "I", false)
  | _ => ("RiverJustifier$Order", "kind", "I", false)
def tyX3 : Nat → FieldType := fun k => match k with
  | 0 => .array .int
  | 1 => .int
  | _ => .int
theorem nmX3 : ∀ a, a < 3 → ∀ b, b < 3 → a ≠ b → (TX3 a).2.1 ≠ (TX3 b).2.1 := by decide +kernel
theorem tyX3_ok : ∀ k, k < 3 → parseFieldDescriptor (TX3 k).2.2.1 = some (tyX3 k) := by decide +kernel
theorem inX3 : ∀ w ∈ u_ws RX3 TX3 3, w ∈ xtb := by
  intro w hw
  refine List.mem_filter.mpr ⟨List.mem_append_right _ ?_, ?_⟩
  · exact (by decide +kernel : ∀ w ∈ u_ws RX3 TX3 3, w ∈ tables_1) w hw
  · exact (by decide +kernel : ∀ w ∈ u_ws RX3 TX3 3, goodWord w = true) w hw
def TX4 : u_T := fun k => match k with
  | 0 => ("RiverJustifier$Paragraph", "words", "I", false)
  | 1 => ("RiverJustifier$Paragraph", "widths", "[I", true)
  | 2 => ("RiverJustifier$Paragraph", "sizes", "[I", true)
  | 3 => ("RiverJustifier$Paragraph", "kinds", "[I", true)
  | 4 => ("RiverJustifier$Paragraph", "leftMarks", "[I", true)
  | _ => ("RiverJustifier$Paragraph", "rightMarks", "[I", true)
def tyX4 : Nat → FieldType := fun k => match k with
  | 0 => .int
  | 1 => .array .int
  | 2 => .array .int
  | 3 => .array .int
  | 4 => .array .int
  | _ => .array .int
theorem nmX4 : ∀ a, a < 6 → ∀ b, b < 6 → a ≠ b → (TX4 a).2.1 ≠ (TX4 b).2.1 := by decide +kernel
theorem tyX4_ok : ∀ k, k < 6 → parseFieldDescriptor (TX4 k).2.2.1 = some (tyX4 k) := by decide +kernel
theorem inX4 : ∀ w ∈ u_ws RX4 TX4 6, w ∈ xtb := by
  intro w hw
  refine List.mem_filter.mpr ⟨List.mem_append_right _ ?_, ?_⟩
  · exact (by decide +kernel : ∀ w ∈ u_ws RX4 TX4 6, w ∈ tables_1) w hw
  · exact (by decide +kernel : ∀ w ∈ u_ws RX4 TX4 6, goodWord w = true) w hw
def TX5 : u_T := fun k => match k with
  | 0 => ("RiverJustifier$Rivers", "amount", "I", false)
  | 1 => ("RiverJustifier$Rivers", "strength", "I", false)
  | 2 => ("RiverJustifier$Rivers", "greatestLength", "I", false)
  | 3 => ("RiverJustifier$Rivers", "lengths", "[I", true)
  | 4 => ("RiverJustifier$Rivers", "middles", "[I", true)
  | 5 => ("RiverJustifier$Rivers", "aboves", "[I", true)
  | 6 => ("RiverJustifier$Rivers", "goesOn", "[Z", true)
  | _ => ("RiverJustifier$Rivers", "ends", "[I", true)
def tyX5 : Nat → FieldType := fun k => match k with
  | 0 => .int
  | 1 => .int
  | 2 => .int
  | 3 => .array .int
  | 4 => .array .int
  | 5 => .array .int
  | 6 => .array .boolean
  | _ => .array .int
theorem nmX5 : ∀ a, a < 8 → ∀ b, b < 8 → a ≠ b → (TX5 a).2.1 ≠ (TX5 b).2.1 := by decide +kernel
theorem tyX5_ok : ∀ k, k < 8 → parseFieldDescriptor (TX5 k).2.2.1 = some (tyX5 k) := by decide +kernel
theorem inX5 : ∀ w ∈ u_ws RX5 TX5 8, w ∈ xtb := by
  intro w hw
  refine List.mem_filter.mpr ⟨List.mem_append_right _ ?_, ?_⟩
  · exact (by decide +kernel : ∀ w ∈ u_ws RX5 TX5 8, w ∈ tables_1) w hw
  · exact (by decide +kernel : ∀ w ∈ u_ws RX5 TX5 8, goodWord w = true) w hw
def TX6 : u_T := fun k => match k with
  | 0 => ("RiverJustifier$Settings", "measure", "I", false)
  | 1 => ("RiverJustifier$Settings", "hang", "I", false)
  | 2 => ("RiverJustifier$Settings", "tolerance", "I", false)
  | 3 => ("RiverJustifier$Settings", "least", "[I", true)
  | 4 => ("RiverJustifier$Settings", "natural", "[I", true)
  | _ => ("RiverJustifier$Settings", "greatest", "[I", true)
def tyX6 : Nat → FieldType := fun k => match k with
  | 0 => .int
  | 1 => .int
  | 2 => .int
  | 3 => .array .int
  | 4 => .array .int
  | _ => .array .int
theorem nmX6 : ∀ a, a < 6 → ∀ b, b < 6 → a ≠ b → (TX6 a).2.1 ≠ (TX6 b).2.1 := by decide +kernel
theorem tyX6_ok : ∀ k, k < 6 → parseFieldDescriptor (TX6 k).2.2.1 = some (tyX6 k) := by decide +kernel
theorem inX6 : ∀ w ∈ u_ws RX6 TX6 6, w ∈ xtb := by
  intro w hw
  refine List.mem_filter.mpr ⟨List.mem_append_right _ ?_, ?_⟩
  · exact (by decide +kernel : ∀ w ∈ u_ws RX6 TX6 6, w ∈ tables_1) w hw
  · exact (by decide +kernel : ∀ w ∈ u_ws RX6 TX6 6, goodWord w = true) w hw
def TX8 : u_T := fun k => match k with
  | 0 => ("RiverJustifier$Text", "signs", "[C", true)
  | _ => ("RiverJustifier$Text", "length", "I", false)
def tyX8 : Nat → FieldType := fun k => match k with
  | 0 => .array .char
  | _ => .int
theorem nmX8 : ∀ a, a < 2 → ∀ b, b < 2 → a ≠ b → (TX8 a).2.1 ≠ (TX8 b).2.1 := by decide +kernel
theorem tyX8_ok : ∀ k, k < 2 → parseFieldDescriptor (TX8 k).2.2.1 = some (tyX8 k) := by decide +kernel
theorem inX8 : ∀ w ∈ u_ws RX8 TX8 2, w ∈ xtb := by
  intro w hw
  refine List.mem_filter.mpr ⟨List.mem_append_right _ ?_, ?_⟩
  · exact (by decide +kernel : ∀ w ∈ u_ws RX8 TX8 2, w ∈ tables_1) w hw
  · exact (by decide +kernel : ∀ w ∈ u_ws RX8 TX8 2, goodWord w = true) w hw
def TX9 : u_T := fun k => match k with
  | 0 => ("RiverJustifier", "text", "LRiverJustifier$Text;", true)
  | 1 => ("RiverJustifier", "order", "LRiverJustifier$Order;", true)
  | 2 => ("RiverJustifier", "settings", "LRiverJustifier$Settings;", true)
  | 3 => ("RiverJustifier", "paragraph", "LRiverJustifier$Paragraph;", true)
  | 4 => ("RiverJustifier", "rules", "LRiverJustifier$LineRules;", true)
  | 5 => ("RiverJustifier", "bestWay", "LRiverJustifier$BestWay;", true)
  | 6 => ("RiverJustifier", "layout", "LRiverJustifier$Layout;", true)
  | _ => ("RiverJustifier", "trial", "LRiverJustifier$Layout;", true)
def tyX9 : Nat → FieldType := fun k => match k with
  | 0 => .object "RiverJustifier$Text"
  | 1 => .object "RiverJustifier$Order"
  | 2 => .object "RiverJustifier$Settings"
  | 3 => .object "RiverJustifier$Paragraph"
  | 4 => .object "RiverJustifier$LineRules"
  | 5 => .object "RiverJustifier$BestWay"
  | 6 => .object "RiverJustifier$Layout"
  | _ => .object "RiverJustifier$Layout"
theorem nmX9 : ∀ a, a < 8 → ∀ b, b < 8 → a ≠ b → (TX9 a).2.1 ≠ (TX9 b).2.1 := by decide +kernel
theorem tyX9_ok : ∀ k, k < 8 → parseFieldDescriptor (TX9 k).2.2.1 = some (tyX9 k) := by decide +kernel
theorem inX9 : ∀ w ∈ u_ws RX9 TX9 8, w ∈ xtb := by
  intro w hw
  refine List.mem_filter.mpr ⟨List.mem_append_right _ ?_, ?_⟩
  · exact (by decide +kernel : ∀ w ∈ u_ws RX9 TX9 8, w ∈ tables_1) w hw
  · exact (by decide +kernel : ∀ w ∈ u_ws RX9 TX9 8, goodWord w = true) w hw
abbrev xcl : List vw_C := [(RX0, TX0, 4), (RX1, TX1, 12), (RX2, TX2, 8), (RX3, TX3, 3), (RX4, TX4, 6), (RX5, TX5, 8), (RX6, TX6, 6), (RX8, TX8, 2), (RX9, TX9, 8)]
theorem xcl_ok {ci : Nat} {C : String} {T : u_T} {N : Nat} (h : xcl[ci]? = some (C, T, N)) : (∀ w ∈ u_ws C T N, w ∈ xtb) ∧ ∃ ty0 : Nat → FieldType, (∀ k, k < N → parseFieldDescriptor (T k).2.2.1 = some (ty0 k)) ∧ ∀ a, a < N → ∀ b, b < N → a ≠ b → (T a).2.1 ≠ (T b).2.1 := by
  match ci, h with
  | 0, h => cases h; exact ⟨inX0, tyX0, tyX0_ok, nmX0⟩
  | 1, h => cases h; exact ⟨inX1, tyX1, tyX1_ok, nmX1⟩
  | 2, h => cases h; exact ⟨inX2, tyX2, tyX2_ok, nmX2⟩
  | 3, h => cases h; exact ⟨inX3, tyX3, tyX3_ok, nmX3⟩
  | 4, h => cases h; exact ⟨inX4, tyX4, tyX4_ok, nmX4⟩
  | 5, h => cases h; exact ⟨inX5, tyX5, tyX5_ok, nmX5⟩
  | 6, h => cases h; exact ⟨inX6, tyX6, tyX6_ok, nmX6⟩
  | 7, h => cases h; exact ⟨inX8, tyX8, tyX8_ok, nmX8⟩
  | 8, h => cases h; exact ⟨inX9, tyX9, tyX9_ok, nmX9⟩
  | k + 9, h => simp [xcl] at h
def xsK : List (String × Nat × String) := [("RiverJustifier$Sign", 28, "fijlrt"), ("RiverJustifier$Sign", 30, "mw"), ("RiverJustifier$Sign", 32, "MW"), ("RiverJustifier$Sign", 20, ".,;:!'"), ("RiverJustifier$Sign", 26, "?-\"()"), ("RiverJustifier$Sign", 38, "'\"("), ("RiverJustifier$Sign", 34, ".!?"), ("RiverJustifier$Sign", 36, ",;:"), ("RiverJustifier$Sign", 40, ".,;:!?-'\""), ("RiverJustifier$Order", 79, "measure"), ("RiverJustifier$Order", 84, "hang"), ("RiverJustifier$Order", 85, "river"), ("RiverJustifier$Order", 87, "space"), ("RiverJustifier$Order", 89, "word"), ("RiverJustifier$Order", 91, "clause"), ("RiverJustifier$Order", 93, "sentence")]
def xsL : List Nat := [6, 2, 2, 6, 5, 3, 3, 3, 9, 7, 4, 5, 5, 4, 6, 8]
def xsB : List (List Int32) := [[102, 105, 106, 108, 114, 116], [109, 119], [77, 87], [46, 44, 59, 58, 33, 39], [63, 45, 34, 40, 41], [39, 34, 40], [46, 33, 63], [44, 59, 58], [46, 44, 59, 58, 33, 63, 45, 39, 34], [109, 101, 97, 115, 117, 114, 101], [104, 97, 110, 103], [114, 105, 118, 101, 114], [115, 112, 97, 99, 101], [119, 111, 114, 100], [99, 108, 97, 117, 115, 101], [115, 101, 110, 116, 101, 110, 99, 101]]
theorem xs_small : ∀ i, i < 16 → xsL.getD i 0 < 2147483648 := by decide +kernel
def xsN : List (String × Nat × MethodName × String) := [("RiverJustifier$LineRules", 52, ⟨"RiverJustifier", "at", "([II)I"⟩, "RiverJustifier"), ("RiverJustifier$BestWay", 36, ⟨"RiverJustifier", "at", "([II)I"⟩, "RiverJustifier"), ("RiverJustifier$Layout", 61, ⟨"RiverJustifier", "at", "([II)I"⟩, "RiverJustifier"), ("RiverJustifier$Rivers", 38, ⟨"RiverJustifier", "at", "([II)I"⟩, "RiverJustifier"), ("RiverJustifier$Order", 75, ⟨"RiverJustifier", "at", "([II)I"⟩, "RiverJustifier"), ("RiverJustifier$Settings", 29, ⟨"RiverJustifier", "isKind", "(I)Z"⟩, "RiverJustifier")]
theorem xw_mmax : Cond.static Lib.Math.max.name ∈ xtb ∧ Cond.initialized "java/lang/Math" ∈ xtb ∧ Cond.code Lib.Math.max.name Lib.Math.max.code 2 (some .int) ∈ xtb := ⟨xt 358 (by decide +kernel) (by decide +kernel), xt 13 (by decide +kernel) (by decide +kernel), xt 359 (by decide +kernel) (by decide +kernel)⟩
theorem xw_mmin : Cond.static Lib.Math.min.name ∈ xtb ∧ Cond.initialized "java/lang/Math" ∈ xtb ∧ Cond.code Lib.Math.min.name Lib.Math.min.code 2 (some .int) ∈ xtb := ⟨xt 361 (by decide +kernel) (by decide +kernel), xt 13 (by decide +kernel) (by decide +kernel), xt 362 (by decide +kernel) (by decide +kernel)⟩
theorem xw_mabs : Cond.static Lib.Math.abs.name ∈ xtb ∧ Cond.initialized "java/lang/Math" ∈ xtb ∧ Cond.code Lib.Math.abs.name Lib.Math.abs.code 1 (some .int) ∈ xtb := ⟨xt 488 (by decide +kernel) (by decide +kernel), xt 13 (by decide +kernel) (by decide +kernel), xt 489 (by decide +kernel) (by decide +kernel)⟩
theorem xw_arr : True ∧ Cond.arrayClass .int ∈ xtb ∧ Cond.arrayClass .char ∈ xtb ∧ Cond.arrayClass .boolean ∈ xtb := ⟨trivial, xt 69 (by decide +kernel) (by decide +kernel), xt 180 (by decide +kernel) (by decide +kernel), xt 238 (by decide +kernel) (by decide +kernel)⟩
theorem xw_obj : Cond.instanceMethod Lib.objectInit ∈ xtb ∧ Cond.code Lib.objectInit ⟨#[0xb1]⟩ 1 none ∈ xtb := ⟨xt 23 (by decide +kernel) (by decide +kernel), xt 24 (by decide +kernel) (by decide +kernel)⟩
abbrev cX0_init : ByteArray := prog_2_method_1_code
def yX0_init : MethodName := ⟨RX0, "<init>", "(LRiverJustifier$Paragraph;LRiverJustifier$LineRules;)V"⟩
abbrev cX0_exists : ByteArray := prog_2_method_2_code
def yX0_exists : MethodName := ⟨RX0, "exists", "()Z"⟩
abbrev cX0_find : ByteArray := prog_2_method_3_code
def yX0_find : MethodName := ⟨RX0, "find", "()V"⟩
abbrev cX0_sumWith : ByteArray := prog_2_method_4_code
def yX0_sumWith : MethodName := ⟨RX0, "sumWith", "(II)I"⟩
abbrev cX1_init : ByteArray := prog_3_method_1_code
def yX1_init : MethodName := ⟨RX1, "<init>", "(LRiverJustifier$Paragraph;LRiverJustifier$Settings;LRiverJustifier$LineRules;LRiverJustifier$BestWay;)V"⟩
abbrev cX1_hasLine : ByteArray := prog_3_method_2_code
def yX1_hasLine : MethodName := ⟨RX1, "hasLine", "(I)Z"⟩
abbrev cX1_firstWord : ByteArray := prog_3_method_3_code
def yX1_firstWord : MethodName := ⟨RX1, "firstWord", "(I)I"⟩
abbrev cX1_lastWord : ByteArray := prog_3_method_4_code
def yX1_lastWord : MethodName := ⟨RX1, "lastWord", "(I)I"⟩
abbrev cX1_endOf : ByteArray := prog_3_method_5_code
def yX1_endOf : MethodName := ⟨RX1, "endOf", "(I)I"⟩
abbrev cX1_demeritsBefore : ByteArray := prog_3_method_6_code
def yX1_demeritsBefore : MethodName := ⟨RX1, "demeritsBefore", "(I)I"⟩
abbrev cX1_linesWorseThan : ByteArray := prog_3_method_7_code
def yX1_linesWorseThan : MethodName := ⟨RX1, "linesWorseThan", "(I)I"⟩
abbrev cX1_secondLast : ByteArray := prog_3_method_8_code
def yX1_secondLast : MethodName := ⟨RX1, "secondLast", "(I)I"⟩
abbrev cX1_becomeBest : ByteArray := prog_3_method_9_code
def yX1_becomeBest : MethodName := ⟨RX1, "becomeBest", "()V"⟩
abbrev cX1_copyBreaks : ByteArray := prog_3_method_10_code
def yX1_copyBreaks : MethodName := ⟨RX1, "copyBreaks", "(LRiverJustifier$Layout;)V"⟩
abbrev cX1_endLineWith : ByteArray := prog_3_method_11_code
def yX1_endLineWith : MethodName := ⟨RX1, "endLineWith", "(II)V"⟩
abbrev cX1_goOnFrom : ByteArray := prog_3_method_12_code
def yX1_goOnFrom : MethodName := ⟨RX1, "goOnFrom", "(I)V"⟩
abbrev cX1_settle : ByteArray := prog_3_method_13_code
def yX1_settle : MethodName := ⟨RX1, "settle", "()V"⟩
abbrev cX1_shareOut : ByteArray := prog_3_method_14_code
def yX1_shareOut : MethodName := ⟨RX1, "shareOut", "(II)V"⟩
abbrev cX1_changeKind : ByteArray := prog_3_method_15_code
def yX1_changeKind : MethodName := ⟨RX1, "changeKind", "(IIIII)I"⟩
abbrev cX1_placeWords : ByteArray := prog_3_method_16_code
def yX1_placeWords : MethodName := ⟨RX1, "placeWords", "(III)V"⟩
abbrev cX2_init : ByteArray := prog_4_method_1_code
def yX2_init : MethodName := ⟨RX2, "<init>", "(LRiverJustifier$Paragraph;LRiverJustifier$Settings;)V"⟩
abbrev cX2_prepare : ByteArray := prog_4_method_2_code
def yX2_prepare : MethodName := ⟨RX2, "prepare", "()V"⟩
abbrev cX2_isEnd : ByteArray := prog_4_method_3_code
def yX2_isEnd : MethodName := ⟨RX2, "isEnd", "(I)Z"⟩
abbrev cX2_naturalWidth : ByteArray := prog_4_method_4_code
def yX2_naturalWidth : MethodName := ⟨RX2, "naturalWidth", "(II)I"⟩
abbrev cX2_badness : ByteArray := prog_4_method_5_code
def yX2_badness : MethodName := ⟨RX2, "badness", "(II)I"⟩
abbrev cX2_demerits : ByteArray := prog_4_method_6_code
def yX2_demerits : MethodName := ⟨RX2, "demerits", "(II)I"⟩
abbrev cX3_init : ByteArray := prog_5_method_1_code
def yX3_init : MethodName := ⟨RX3, "<init>", "()V"⟩
abbrev cX3_parse : ByteArray := prog_5_method_2_code
def yX3_parse : MethodName := ⟨RX3, "parse", "(LRiverJustifier$Text;)I"⟩
abbrev cX3_applyTo : ByteArray := prog_5_method_3_code
def yX3_applyTo : MethodName := ⟨RX3, "applyTo", "(LRiverJustifier$Settings;)V"⟩
abbrev cX3_wantedPieces : ByteArray := prog_5_method_4_code
def yX3_wantedPieces : MethodName := ⟨RX3, "wantedPieces", "()I"⟩
abbrev cX3_takePiece : ByteArray := prog_5_method_5_code
def yX3_takePiece : MethodName := ⟨RX3, "takePiece", "(LRiverJustifier$Text;III)Z"⟩
abbrev cX3_takeNumber : ByteArray := prog_5_method_6_code
def yX3_takeNumber : MethodName := ⟨RX3, "takeNumber", "(II)Z"⟩
abbrev cX3_leastNumber : ByteArray := prog_5_method_7_code
def yX3_leastNumber : MethodName := ⟨RX3, "leastNumber", "(I)I"⟩
abbrev cX3_greatestNumber : ByteArray := prog_5_method_8_code
def yX3_greatestNumber : MethodName := ⟨RX3, "greatestNumber", "()I"⟩
abbrev cX3_subjectAt : ByteArray := prog_5_method_9_code
def yX3_subjectAt : MethodName := ⟨RX3, "subjectAt", "(LRiverJustifier$Text;II)I"⟩
abbrev cX3_kindAt : ByteArray := prog_5_method_10_code
def yX3_kindAt : MethodName := ⟨RX3, "kindAt", "(LRiverJustifier$Text;II)I"⟩
abbrev cX4_init : ByteArray := prog_6_method_1_code
def yX4_init : MethodName := ⟨RX4, "<init>", "()V"⟩
abbrev cX4_hasWord : ByteArray := prog_6_method_2_code
def yX4_hasWord : MethodName := ⟨RX4, "hasWord", "(I)Z"⟩
abbrev cX4_take : ByteArray := prog_6_method_3_code
def yX4_take : MethodName := ⟨RX4, "take", "(LRiverJustifier$Text;)V"⟩
abbrev cX4_openWord : ByteArray := prog_6_method_4_code
def yX4_openWord : MethodName := ⟨RX4, "openWord", "(C)V"⟩
abbrev cX4_lengthenWord : ByteArray := prog_6_method_5_code
def yX4_lengthenWord : MethodName := ⟨RX4, "lengthenWord", "(C)V"⟩
abbrev cX5_init : ByteArray := prog_7_method_1_code
def yX5_init : MethodName := ⟨RX5, "<init>", "()V"⟩
abbrev cX5_spaceOf : ByteArray := prog_7_method_2_code
def yX5_spaceOf : MethodName := ⟨RX5, "spaceOf", "(II)I"⟩
abbrev cX5_find : ByteArray := prog_7_method_3_code
def yX5_find : MethodName := ⟨RX5, "find", "(LRiverJustifier$Layout;II)V"⟩
abbrev cX5_spaceAbove : ByteArray := prog_7_method_4_code
def yX5_spaceAbove : MethodName := ⟨RX5, "spaceAbove", "(LRiverJustifier$Layout;II)I"⟩
abbrev cX5_collectEnds : ByteArray := prog_7_method_5_code
def yX5_collectEnds : MethodName := ⟨RX5, "collectEnds", "(LRiverJustifier$Layout;I)V"⟩
abbrev cX6_init : ByteArray := prog_8_method_1_code
def yX6_init : MethodName := ⟨RX6, "<init>", "()V"⟩
abbrev cX6_putWidths : ByteArray := prog_8_method_2_code
def yX6_putWidths : MethodName := ⟨RX6, "putWidths", "(IIII)V"⟩
abbrev cX7_widthOf : ByteArray := prog_9_method_2_code
def yX7_widthOf : MethodName := ⟨RX7, "widthOf", "(C)I"⟩
abbrev cX7_smallLetterWidth : ByteArray := prog_9_method_3_code
def yX7_smallLetterWidth : MethodName := ⟨RX7, "smallLetterWidth", "(C)I"⟩
abbrev cX7_capitalWidth : ByteArray := prog_9_method_4_code
def yX7_capitalWidth : MethodName := ⟨RX7, "capitalWidth", "(C)I"⟩
abbrev cX7_kindBehind : ByteArray := prog_9_method_5_code
def yX7_kindBehind : MethodName := ⟨RX7, "kindBehind", "(C)I"⟩
abbrev cX7_hangsLeft : ByteArray := prog_9_method_6_code
def yX7_hangsLeft : MethodName := ⟨RX7, "hangsLeft", "(C)Z"⟩
abbrev cX7_hangsRight : ByteArray := prog_9_method_7_code
def yX7_hangsRight : MethodName := ⟨RX7, "hangsRight", "(C)Z"⟩
abbrev cX7_isDigit : ByteArray := prog_9_method_8_code
def yX7_isDigit : MethodName := ⟨RX7, "isDigit", "(C)Z"⟩
abbrev cX7_isOneOf : ByteArray := prog_9_method_9_code
def yX7_isOneOf : MethodName := ⟨RX7, "isOneOf", "(CLjava/lang/String;)Z"⟩
abbrev cX8_init : ByteArray := prog_10_method_1_code
def yX8_init : MethodName := ⟨RX8, "<init>", "()V"⟩
abbrev cX8_append : ByteArray := prog_10_method_2_code
def yX8_append : MethodName := ⟨RX8, "append", "(C)I"⟩
abbrev cX8_empty : ByteArray := prog_10_method_3_code
def yX8_empty : MethodName := ⟨RX8, "empty", "()I"⟩
abbrev cX8_paragraphFault : ByteArray := prog_10_method_4_code
def yX8_paragraphFault : MethodName := ⟨RX8, "paragraphFault", "()I"⟩
abbrev cX8_endOfPiece : ByteArray := prog_10_method_5_code
def yX8_endOfPiece : MethodName := ⟨RX8, "endOfPiece", "(I)I"⟩
abbrev cX8_isName : ByteArray := prog_10_method_6_code
def yX8_isName : MethodName := ⟨RX8, "isName", "(IILjava/lang/String;)Z"⟩
abbrev cX8_numberAt : ByteArray := prog_10_method_7_code
def yX8_numberAt : MethodName := ⟨RX8, "numberAt", "(II)I"⟩
abbrev cX9_init : ByteArray := prog_1_method_1_code
def yX9_init : MethodName := ⟨RX9, "<init>", "()V"⟩
abbrev cX9_type : ByteArray := prog_1_method_2_code
def yX9_type : MethodName := ⟨RX9, "type", "(C)I"⟩
abbrev cX9_clearText : ByteArray := prog_1_method_3_code
def yX9_clearText : MethodName := ⟨RX9, "clearText", "()I"⟩
abbrev cX9_readParagraph : ByteArray := prog_1_method_4_code
def yX9_readParagraph : MethodName := ⟨RX9, "readParagraph", "()I"⟩
abbrev cX9_command : ByteArray := prog_1_method_5_code
def yX9_command : MethodName := ⟨RX9, "command", "()I"⟩
abbrev cX9_setMeasure : ByteArray := prog_1_method_6_code
def yX9_setMeasure : MethodName := ⟨RX9, "setMeasure", "(I)I"⟩
abbrev cX9_setHang : ByteArray := prog_1_method_7_code
def yX9_setHang : MethodName := ⟨RX9, "setHang", "(I)I"⟩
abbrev cX9_setTolerance : ByteArray := prog_1_method_8_code
def yX9_setTolerance : MethodName := ⟨RX9, "setTolerance", "(I)I"⟩
abbrev cX9_setSpace : ByteArray := prog_1_method_9_code
def yX9_setSpace : MethodName := ⟨RX9, "setSpace", "(IIII)I"⟩
abbrev cX9_layBest : ByteArray := prog_1_method_10_code
def yX9_layBest : MethodName := ⟨RX9, "layBest", "()I"⟩
abbrev cX9_takeSecond : ByteArray := prog_1_method_11_code
def yX9_takeSecond : MethodName := ⟨RX9, "takeSecond", "(I)I"⟩
abbrev cX9_breakRivers : ByteArray := prog_1_method_12_code
def yX9_breakRivers : MethodName := ⟨RX9, "breakRivers", "()I"⟩
abbrev cX9_count : ByteArray := prog_1_method_13_code
def yX9_count : MethodName := ⟨RX9, "count", "(I)I"⟩
abbrev cX9_spaceWidth : ByteArray := prog_1_method_14_code
def yX9_spaceWidth : MethodName := ⟨RX9, "spaceWidth", "(II)I"⟩
abbrev cX9_word : ByteArray := prog_1_method_15_code
def yX9_word : MethodName := ⟨RX9, "word", "(II)I"⟩
abbrev cX9_line : ByteArray := prog_1_method_16_code
def yX9_line : MethodName := ⟨RX9, "line", "(II)I"⟩
abbrev cX9_space : ByteArray := prog_1_method_17_code
def yX9_space : MethodName := ⟨RX9, "space", "(III)I"⟩
abbrev cX9_begin : ByteArray := prog_1_method_18_code
def yX9_begin : MethodName := ⟨RX9, "begin", "(I)I"⟩
abbrev cX9_second : ByteArray := prog_1_method_19_code
def yX9_second : MethodName := ⟨RX9, "second", "(II)I"⟩
abbrev cX9_worst : ByteArray := prog_1_method_20_code
def yX9_worst : MethodName := ⟨RX9, "worst", "(I)I"⟩
abbrev cX9_river : ByteArray := prog_1_method_21_code
def yX9_river : MethodName := ⟨RX9, "river", "(II)I"⟩
abbrev cX9_at : ByteArray := prog_1_method_22_code
def yX9_at : MethodName := ⟨RX9, "at", "([II)I"⟩
abbrev cX9_isKind : ByteArray := prog_1_method_23_code
def yX9_isKind : MethodName := ⟨RX9, "isKind", "(I)Z"⟩
abbrev cX9_restoreBest : ByteArray := prog_1_method_24_code
def yX9_restoreBest : MethodName := ⟨RX9, "restoreBest", "()I"⟩
abbrev cX9_calmingLine : ByteArray := prog_1_method_25_code
def yX9_calmingLine : MethodName := ⟨RX9, "calmingLine", "()I"⟩
abbrev cJ0_length_8abf5 : ByteArray := prog_15_method_54_code
def yJ0_length_8abf5 : MethodName := ⟨RJ0, "length", "()I"⟩
abbrev cJ0_charAt_5068e : ByteArray := prog_15_method_56_code
def yJ0_charAt_5068e : MethodName := ⟨RJ0, "charAt", "(I)C"⟩
abbrev cJ0_indexOf_0f7a4 : ByteArray := prog_15_method_79_code
def yJ0_indexOf_0f7a4 : MethodName := ⟨RJ0, "indexOf", "(I)I"⟩
abbrev cJ0_indexOf_7cf53 : ByteArray := prog_15_method_80_code
def yJ0_indexOf_7cf53 : MethodName := ⟨RJ0, "indexOf", "(II)I"⟩
abbrev cJ0_coder_7d493 : ByteArray := prog_15_method_152_code
def yJ0_coder_7d493 : MethodName := ⟨RJ0, "coder", "()B"⟩
abbrev cJ0_isLatin1_aae02 : ByteArray := prog_15_method_154_code
def yJ0_isLatin1_aae02 : MethodName := ⟨RJ0, "isLatin1", "()Z"⟩
abbrev cJ0_checkIndex_df160 : ByteArray := prog_15_method_155_code
def yJ0_checkIndex_df160 : MethodName := ⟨RJ0, "checkIndex", "(II)V"⟩
abbrev cJ0_checkBoundsBeginEnd_23922 : ByteArray := prog_15_method_158_code
def yJ0_checkBoundsBeginEnd_23922 : MethodName := ⟨RJ0, "checkBoundsBeginEnd", "(III)V"⟩
abbrev cJ1_charAt_3b067 : ByteArray := prog_16_method_2_code
def yJ1_charAt_3b067 : MethodName := ⟨RJ1, "charAt", "([BI)C"⟩
abbrev cJ1_canEncode_9a6ad : ByteArray := prog_16_method_4_code
def yJ1_canEncode_9a6ad : MethodName := ⟨RJ1, "canEncode", "(I)Z"⟩
abbrev cJ1_indexOf_4cfef : ByteArray := prog_16_method_22_code
def yJ1_indexOf_4cfef : MethodName := ⟨RJ1, "indexOf", "([BIII)I"⟩
abbrev cJ1_indexOfChar_4cfef : ByteArray := prog_16_method_23_code
def yJ1_indexOfChar_4cfef : MethodName := ⟨RJ1, "indexOfChar", "([BIII)I"⟩
abbrev cJ3_checkIndex_8e157 : ByteArray := prog_18_method_11_code
def yJ3_checkIndex_8e157 : MethodName := ⟨RJ3, "checkIndex", "(IILjava/util/function/BiFunction;)I"⟩
abbrev cJ3_checkFromToIndex_8c36e : ByteArray := prog_18_method_12_code
def yJ3_checkFromToIndex_8c36e : MethodName := ⟨RJ3, "checkFromToIndex", "(IIILjava/util/function/BiFunction;)I"⟩
abbrev cL_cell : ByteArray := method_2_code
def yL_cell : MethodName := ⟨RL, "cell", "([II)I"⟩
abbrev cL_low : ByteArray := method_3_code
def yL_low : MethodName := ⟨RL, "low", "(II)I"⟩
abbrev cL_sign : ByteArray := method_4_code
def yL_sign : MethodName := ⟨RL, "sign", "(I)C"⟩
abbrev cL_reads : ByteArray := method_5_code
def yL_reads : MethodName := ⟨RL, "reads", "(LRiverJustifier;[II)Z"⟩
abbrev cL_lines : ByteArray := method_6_code
def yL_lines : MethodName := ⟨RL, "lines", "(LRiverJustifier;)Z"⟩
abbrev cL_rivers : ByteArray := method_7_code
def yL_rivers : MethodName := ⟨RL, "rivers", "(LRiverJustifier;)Z"⟩
abbrev cL_seconds : ByteArray := method_8_code
def yL_seconds : MethodName := ⟨RL, "seconds", "(LRiverJustifier;I)Z"⟩
abbrev cL_number : ByteArray := method_9_code
def yL_number : MethodName := ⟨RL, "number", "(LRiverJustifier;I)V"⟩
abbrev cL_word : ByteArray := method_10_code
def yL_word : MethodName := ⟨RL, "word", "(LRiverJustifier;I)V"⟩
abbrev cL_commands : ByteArray := method_11_code
def yL_commands : MethodName := ⟨RL, "commands", "(LRiverJustifier;II)Z"⟩
abbrev cL_law : ByteArray := code
