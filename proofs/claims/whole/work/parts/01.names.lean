/-! ===== BEGIN words of one list among another's, by their places ===== -/
theorem goodIn_r {big : List Cond} (ws : List Cond) (ps : List Nat) (hp : ws = ps.filterMap (fun i => big[i]?)) (h : ws.all goodWord = true) : GoodIn big ws := by
  intro w hw
  have h1 := List.all_eq_true.mp h w hw
  rw [hp] at hw
  obtain ⟨i, -, hi⟩ := List.mem_filterMap.mp hw
  have hm : w ∈ big := by first | exact List.mem_of_getElem? hi | exact List.getElem?_mem hi
  exact ⟨hm, good_of_word h1⟩
theorem goodIn_app {big a b : List Cond} (ha : GoodIn big a) (hb : GoodIn big b) : GoodIn big (a ++ b) := fun w h => (List.mem_append.mp h).elim (ha w) (hb w)
theorem goodIn_ca {big a b : List Cond} {c : Cond} (ha : GoodIn big (c :: a)) (hb : GoodIn big b) : GoodIn big (c :: (a ++ b)) := fun w h => (List.mem_cons.mp h).elim (fun e => ha w (List.mem_cons.mpr (Or.inl e))) (fun h => (List.mem_append.mp h).elim (fun h => ha w (List.mem_cons.mpr (Or.inr h))) (hb w))
theorem goodIn_sub {big ws : List Cond} (hm : ∀ w ∈ ws, w ∈ big) (h : ws.all goodWord = true) : GoodIn big ws := fun w hw => ⟨hm w hw, good_of_word (List.all_eq_true.mp h w hw)⟩
/-! ===== END ===== -/

/-! ===== BEGIN printed: names, fields, word lists, decode rows ===== -/
def RX0 : String := "OtherName$Couples"
def TX0 : u_T := fun k => match k with
  | 0 => ("OtherName$Couples", "most", "I", false)
  | 1 => ("OtherName$Couples", "spouse", "[I", true)
  | 2 => ("OtherName$Couples", "womenFor", "[I", true)
  | 3 => ("OtherName$Couples", "husband", "[I", true)
  | 4 => ("OtherName$Couples", "asked", "I", false)
  | 5 => ("OtherName$Couples", "folk", "LOtherName$Folk;", true)
  | _ => ("OtherName$Couples", "names", "LOtherName$Names;", true)
def tyX0 : Nat → FieldType := fun k => match k with
  | 0 => .int
  | 1 => .array .int
  | 2 => .array .int
  | 3 => .array .int
  | 4 => .int
  | 5 => .object "OtherName$Folk"
  | _ => .object "OtherName$Names"
abbrev wsX00 : List Cond := u_ws RX0 TX0 7
theorem nmX0 : ∀ a, a < 7 → ∀ b, b < 7 → a ≠ b → (TX0 a).2.1 ≠ (TX0 b).2.1 := by decide +kernel
theorem tyX0_ok : ∀ k, k < 7 → parseFieldDescriptor (TX0 k).2.2.1 = some (tyX0 k) := by decide +kernel
abbrev cX0_init : ByteArray := prog_2_method_1_code
def yX0_init : MethodName := ⟨RX0, "<init>", "(LOtherName$Folk;LOtherName$Names;)V"⟩
abbrev cX0_allowed : ByteArray := prog_2_method_2_code
def yX0_allowed : MethodName := ⟨RX0, "allowed", "(II)Z"⟩
abbrev cX0_wedAll : ByteArray := prog_2_method_3_code
def yX0_wedAll : MethodName := ⟨RX0, "wedAll", "()V"⟩
abbrev cX0_findWomen : ByteArray := prog_2_method_4_code
def yX0_findWomen : MethodName := ⟨RX0, "findWomen", "()V"⟩
abbrev cX0_leastWife : ByteArray := prog_2_method_5_code
def yX0_leastWife : MethodName := ⟨RX0, "leastWife", "(III)I"⟩
abbrev cX0_mostFrom : ByteArray := prog_2_method_6_code
def yX0_mostFrom : MethodName := ⟨RX0, "mostFrom", "(II)I"⟩
abbrev cX0_findsWife : ByteArray := prog_2_method_7_code
def yX0_findsWife : MethodName := ⟨RX0, "findsWife", "(LOtherName$Couples;II)Z"⟩
def RX1 : String := "OtherName$Folk"
def TX1 : u_T := fun k => match k with
  | 0 => ("OtherName$Folk", "size", "I", false)
  | 1 => ("OtherName$Folk", "kind", "[I", true)
  | 2 => ("OtherName$Folk", "sex", "[I", true)
  | 3 => ("OtherName$Folk", "father", "[I", true)
  | 4 => ("OtherName$Folk", "mother", "[I", true)
  | 5 => ("OtherName$Folk", "gap", "[Z", true)
  | 6 => ("OtherName$Folk", "generation", "[I", true)
  | 7 => ("OtherName$Folk", "told", "[I", true)
  | 8 => ("OtherName$Folk", "written", "[I", true)
  | 9 => ("OtherName$Folk", "alive", "[Z", true)
  | _ => ("OtherName$Folk", "up", "[I", true)
def tyX1 : Nat → FieldType := fun k => match k with
  | 0 => .int
  | 1 => .array .int
  | 2 => .array .int
  | 3 => .array .int
  | 4 => .array .int
  | 5 => .array .boolean
  | 6 => .array .int
  | 7 => .array .int
  | 8 => .array .int
  | 9 => .array .boolean
  | _ => .array .int
abbrev wsX10 : List Cond := u_ws RX1 TX1 11
theorem nmX1 : ∀ a, a < 11 → ∀ b, b < 11 → a ≠ b → (TX1 a).2.1 ≠ (TX1 b).2.1 := by decide +kernel
theorem tyX1_ok : ∀ k, k < 11 → parseFieldDescriptor (TX1 k).2.2.1 = some (tyX1 k) := by decide +kernel
abbrev cX1_init : ByteArray := prog_3_method_1_code
def yX1_init : MethodName := ⟨RX1, "<init>", "()V"⟩
abbrev cX1_has : ByteArray := prog_3_method_2_code
def yX1_has : MethodName := ⟨RX1, "has", "(I)Z"⟩
abbrev cX1_isOfSex : ByteArray := prog_3_method_3_code
def yX1_isOfSex : MethodName := ⟨RX1, "isOfSex", "(II)Z"⟩
abbrev cX1_isFounder : ByteArray := prog_3_method_4_code
def yX1_isFounder : MethodName := ⟨RX1, "isFounder", "(I)Z"⟩
abbrev cX1_fitsAsFather : ByteArray := prog_3_method_5_code
def yX1_fitsAsFather : MethodName := ⟨RX1, "fitsAsFather", "(I)Z"⟩
abbrev cX1_leastMan : ByteArray := prog_3_method_6_code
def yX1_leastMan : MethodName := ⟨RX1, "leastMan", "()I"⟩
abbrev cX1_gaps : ByteArray := prog_3_method_7_code
def yX1_gaps : MethodName := ⟨RX1, "gaps", "()I"⟩
abbrev cX1_living : ByteArray := prog_3_method_8_code
def yX1_living : MethodName := ⟨RX1, "living", "()I"⟩
abbrev cX1_entries : ByteArray := prog_3_method_9_code
def yX1_entries : MethodName := ⟨RX1, "entries", "()I"⟩
abbrev cX1_founders : ByteArray := prog_3_method_10_code
def yX1_founders : MethodName := ⟨RX1, "founders", "()I"⟩
abbrev cX1_add : ByteArray := prog_3_method_11_code
def yX1_add : MethodName := ⟨RX1, "add", "(IIIII)I"⟩
abbrev cX1_steps : ByteArray := prog_3_method_12_code
def yX1_steps : MethodName := ⟨RX1, "steps", "(II)I"⟩
abbrev cX1_oneMore : ByteArray := prog_3_method_13_code
def yX1_oneMore : MethodName := ⟨RX1, "oneMore", "(II)I"⟩
abbrev cX1_distance : ByteArray := prog_3_method_14_code
def yX1_distance : MethodName := ⟨RX1, "distance", "(II)I"⟩
abbrev cX1_nearestLiving : ByteArray := prog_3_method_15_code
def yX1_nearestLiving : MethodName := ⟨RX1, "nearestLiving", "(I)I"⟩
def RX2 : String := "OtherName$Guessing"
def TX2 : u_T := fun k => match k with
  | 0 => ("OtherName$Guessing", "found", "I", false)
  | 1 => ("OtherName$Guessing", "certain", "[I", true)
  | 2 => ("OtherName$Guessing", "gaps", "I", false)
  | 3 => ("OtherName$Guessing", "at", "[I", true)
  | 4 => ("OtherName$Guessing", "choices", "[I", true)
  | 5 => ("OtherName$Guessing", "men", "[I", true)
  | 6 => ("OtherName$Guessing", "fathers", "[I", true)
  | 7 => ("OtherName$Guessing", "folk", "LOtherName$Folk;", true)
  | _ => ("OtherName$Guessing", "trial", "LOtherName$Names;", true)
def tyX2 : Nat → FieldType := fun k => match k with
  | 0 => .int
  | 1 => .array .int
  | 2 => .int
  | 3 => .array .int
  | 4 => .array .int
  | 5 => .array .int
  | 6 => .array .int
  | 7 => .object "OtherName$Folk"
  | _ => .object "OtherName$Names"
abbrev wsX20 : List Cond := u_ws RX2 TX2 9
theorem nmX2 : ∀ a, a < 9 → ∀ b, b < 9 → a ≠ b → (TX2 a).2.1 ≠ (TX2 b).2.1 := by decide +kernel
theorem tyX2_ok : ∀ k, k < 9 → parseFieldDescriptor (TX2 k).2.2.1 = some (tyX2 k) := by decide +kernel
abbrev cX2_init : ByteArray := prog_4_method_1_code
def yX2_init : MethodName := ⟨RX2, "<init>", "(LOtherName$Folk;LOtherName$Names;)V"⟩
abbrev cX2_search : ByteArray := prog_4_method_2_code
def yX2_search : MethodName := ⟨RX2, "search", "(LOtherName$Law;)V"⟩
abbrev cX2_findGaps : ByteArray := prog_4_method_3_code
def yX2_findGaps : MethodName := ⟨RX2, "findGaps", "()I"⟩
abbrev cX2_fillGaps : ByteArray := prog_4_method_4_code
def yX2_fillGaps : MethodName := ⟨RX2, "fillGaps", "(I)V"⟩
abbrev cX2_noteWay : ByteArray := prog_4_method_5_code
def yX2_noteWay : MethodName := ⟨RX2, "noteWay", "()V"⟩
def RX3 : String := "OtherName$Image"
def TX3 : u_T := fun k => match k with
  | 0 => ("OtherName$Image", "there", "Z", false)
  | 1 => ("OtherName$Image", "size", "I", false)
  | 2 => ("OtherName$Image", "told", "[I", true)
  | 3 => ("OtherName$Image", "written", "[I", true)
  | _ => ("OtherName$Image", "alive", "[Z", true)
def tyX3 : Nat → FieldType := fun k => match k with
  | 0 => .boolean
  | 1 => .int
  | 2 => .array .int
  | 3 => .array .int
  | _ => .array .boolean
abbrev wsX30 : List Cond := u_ws RX3 TX3 5
theorem nmX3 : ∀ a, a < 5 → ∀ b, b < 5 → a ≠ b → (TX3 a).2.1 ≠ (TX3 b).2.1 := by decide +kernel
theorem tyX3_ok : ∀ k, k < 5 → parseFieldDescriptor (TX3 k).2.2.1 = some (tyX3 k) := by decide +kernel
abbrev cX3_init : ByteArray := prog_5_method_1_code
def yX3_init : MethodName := ⟨RX3, "<init>", "()V"⟩
abbrev cX3_keep : ByteArray := prog_5_method_2_code
def yX3_keep : MethodName := ⟨RX3, "keep", "(LOtherName$Folk;)V"⟩
abbrev cX3_giveBack : ByteArray := prog_5_method_3_code
def yX3_giveBack : MethodName := ⟨RX3, "giveBack", "(LOtherName$Folk;)V"⟩
def RX4 : String := "OtherName$Law"
def TX4 : u_T := fun k => match k with
  | 0 => ("OtherName$Law", "first", "I", false)
  | 1 => ("OtherName$Law", "every", "I", false)
  | 2 => ("OtherName$Law", "second", "I", false)
  | _ => ("OtherName$Law", "twins", "I", false)
def tyX4 : Nat → FieldType := fun k => match k with
  | 0 => .int
  | 1 => .int
  | 2 => .int
  | _ => .int
abbrev wsX40 : List Cond := u_ws RX4 TX4 4
theorem nmX4 : ∀ a, a < 4 → ∀ b, b < 4 → a ≠ b → (TX4 a).2.1 ≠ (TX4 b).2.1 := by decide +kernel
theorem tyX4_ok : ∀ k, k < 4 → parseFieldDescriptor (TX4 k).2.2.1 = some (tyX4 k) := by decide +kernel
abbrev cX4_init : ByteArray := prog_6_method_1_code
def yX4_init : MethodName := ⟨RX4, "<init>", "(IIII)V"⟩
def RX5 : String := "OtherName$LawSearch"
def TX5 : u_T := fun k => match k with
  | 0 => ("OtherName$LawSearch", "fits", "I", false)
  | 1 => ("OtherName$LawSearch", "firstFit", "LOtherName$Law;", true)
  | 2 => ("OtherName$LawSearch", "tried", "LOtherName$Law;", true)
  | 3 => ("OtherName$LawSearch", "folk", "LOtherName$Folk;", true)
  | _ => ("OtherName$LawSearch", "trial", "LOtherName$Names;", true)
def tyX5 : Nat → FieldType := fun k => match k with
  | 0 => .int
  | 1 => .object "OtherName$Law"
  | 2 => .object "OtherName$Law"
  | 3 => .object "OtherName$Folk"
  | _ => .object "OtherName$Names"
abbrev wsX50 : List Cond := u_ws RX5 TX5 5
theorem nmX5 : ∀ a, a < 5 → ∀ b, b < 5 → a ≠ b → (TX5 a).2.1 ≠ (TX5 b).2.1 := by decide +kernel
theorem tyX5_ok : ∀ k, k < 5 → parseFieldDescriptor (TX5 k).2.2.1 = some (tyX5 k) := by decide +kernel
abbrev cX5_init : ByteArray := prog_7_method_1_code
def yX5_init : MethodName := ⟨RX5, "<init>", "(LOtherName$Folk;LOtherName$Names;)V"⟩
abbrev cX5_search : ByteArray := prog_7_method_2_code
def yX5_search : MethodName := ⟨RX5, "search", "(I)V"⟩
abbrev cX5_tells : ByteArray := prog_7_method_3_code
def yX5_tells : MethodName := ⟨RX5, "tells", "(I)I"⟩
abbrev cX5_setTried : ByteArray := prog_7_method_4_code
def yX5_setTried : MethodName := ⟨RX5, "setTried", "(I)V"⟩
abbrev cX5_noteFit : ByteArray := prog_7_method_5_code
def yX5_noteFit : MethodName := ⟨RX5, "noteFit", "()V"⟩
def RX6 : String := "OtherName$Mending"
def TX6 : u_T := fun k => match k with
  | 0 => ("OtherName$Mending", "fewest", "I", false)
  | 1 => ("OtherName$Mending", "founders", "I", false)
  | 2 => ("OtherName$Mending", "at", "[I", true)
  | 3 => ("OtherName$Mending", "best", "[I", true)
  | 4 => ("OtherName$Mending", "told", "[I", true)
  | 5 => ("OtherName$Mending", "folk", "LOtherName$Folk;", true)
  | _ => ("OtherName$Mending", "trial", "LOtherName$Names;", true)
def tyX6 : Nat → FieldType := fun k => match k with
  | 0 => .int
  | 1 => .int
  | 2 => .array .int
  | 3 => .array .int
  | 4 => .array .int
  | 5 => .object "OtherName$Folk"
  | _ => .object "OtherName$Names"
abbrev wsX60 : List Cond := u_ws RX6 TX6 7
theorem nmX6 : ∀ a, a < 7 → ∀ b, b < 7 → a ≠ b → (TX6 a).2.1 ≠ (TX6 b).2.1 := by decide +kernel
theorem tyX6_ok : ∀ k, k < 7 → parseFieldDescriptor (TX6 k).2.2.1 = some (tyX6 k) := by decide +kernel
abbrev cX6_init : ByteArray := prog_8_method_1_code
def yX6_init : MethodName := ⟨RX6, "<init>", "(LOtherName$Folk;LOtherName$Names;)V"⟩
abbrev cX6_search : ByteArray := prog_8_method_2_code
def yX6_search : MethodName := ⟨RX6, "search", "(LOtherName$Law;)V"⟩
abbrev cX6_nameOfFounder : ByteArray := prog_8_method_3_code
def yX6_nameOfFounder : MethodName := ⟨RX6, "nameOfFounder", "(I)I"⟩
abbrev cX6_findFounders : ByteArray := prog_8_method_4_code
def yX6_findFounders : MethodName := ⟨RX6, "findFounders", "()I"⟩
abbrev cX6_callFounders : ByteArray := prog_8_method_5_code
def yX6_callFounders : MethodName := ⟨RX6, "callFounders", "(I)V"⟩
abbrev cX6_keepBest : ByteArray := prog_8_method_6_code
def yX6_keepBest : MethodName := ⟨RX6, "keepBest", "()V"⟩
def RX7 : String := "OtherName$Names"
def TX7 : u_T := fun k => match k with
  | 0 => ("OtherName$Names", "of", "[I", true)
  | 1 => ("OtherName$Names", "row", "[I", true)
  | _ => ("OtherName$Names", "folk", "LOtherName$Folk;", true)
def tyX7 : Nat → FieldType := fun k => match k with
  | 0 => .array .int
  | 1 => .array .int
  | _ => .object "OtherName$Folk"
abbrev wsX70 : List Cond := u_ws RX7 TX7 3
theorem nmX7 : ∀ a, a < 3 → ∀ b, b < 3 → a ≠ b → (TX7 a).2.1 ≠ (TX7 b).2.1 := by decide +kernel
theorem tyX7_ok : ∀ k, k < 3 → parseFieldDescriptor (TX7 k).2.2.1 = some (tyX7 k) := by decide +kernel
abbrev cX7_init : ByteArray := prog_9_method_1_code
def yX7_init : MethodName := ⟨RX7, "<init>", "(LOtherName$Folk;)V"⟩
abbrev cX7_give : ByteArray := prog_9_method_2_code
def yX7_give : MethodName := ⟨RX7, "give", "([I[ILOtherName$Law;)V"⟩
abbrev cX7_ofOneWithParents : ByteArray := prog_9_method_3_code
def yX7_ofOneWithParents : MethodName := ⟨RX7, "ofOneWithParents", "(I[ILOtherName$Law;)I"⟩
abbrev cX7_isTaken : ByteArray := prog_9_method_4_code
def yX7_isTaken : MethodName := ⟨RX7, "isTaken", "(I[I)Z"⟩
abbrev cX7_rowWith : ByteArray := prog_9_method_5_code
def yX7_rowWith : MethodName := ⟨RX7, "rowWith", "(II)I"⟩
abbrev cX7_byRule : ByteArray := prog_9_method_6_code
def yX7_byRule : MethodName := ⟨RX7, "byRule", "(II[I)I"⟩
abbrev cX7_ofMotherOf : ByteArray := prog_9_method_7_code
def yX7_ofMotherOf : MethodName := ⟨RX7, "ofMotherOf", "(I)I"⟩
abbrev cX7_isWrong : ByteArray := prog_9_method_8_code
def yX7_isWrong : MethodName := ⟨RX7, "isWrong", "(I)Z"⟩
abbrev cX7_errors : ByteArray := prog_9_method_9_code
def yX7_errors : MethodName := ⟨RX7, "errors", "()I"⟩
abbrev cX7_firstError : ByteArray := prog_9_method_10_code
def yX7_firstError : MethodName := ⟨RX7, "firstError", "()I"⟩
def RX8 : String := "OtherName$Page"
def TX8 : u_T := fun k => match k with
  | 0 => ("OtherName$Page", "codes", "[I", true)
  | _ => ("OtherName$Page", "length", "I", false)
def tyX8 : Nat → FieldType := fun k => match k with
  | 0 => .array .int
  | _ => .int
abbrev wsX80 : List Cond := u_ws RX8 TX8 2
theorem nmX8 : ∀ a, a < 2 → ∀ b, b < 2 → a ≠ b → (TX8 a).2.1 ≠ (TX8 b).2.1 := by decide +kernel
theorem tyX8_ok : ∀ k, k < 2 → parseFieldDescriptor (TX8 k).2.2.1 = some (tyX8 k) := by decide +kernel
abbrev cX8_init : ByteArray := prog_10_method_1_code
def yX8_init : MethodName := ⟨RX8, "<init>", "()V"⟩
abbrev cX8_add : ByteArray := prog_10_method_2_code
def yX8_add : MethodName := ⟨RX8, "add", "(I)V"⟩
abbrev cX8_firstFault : ByteArray := prog_10_method_3_code
def yX8_firstFault : MethodName := ⟨RX8, "firstFault", "()I"⟩
abbrev cX8_isLaw : ByteArray := prog_10_method_4_code
def yX8_isLaw : MethodName := ⟨RX8, "isLaw", "()Z"⟩
abbrev cX8_readInto : ByteArray := prog_10_method_5_code
def yX8_readInto : MethodName := ⟨RX8, "readInto", "(LOtherName$Law;)V"⟩
abbrev cX8_next : ByteArray := prog_10_method_6_code
def yX8_next : MethodName := ⟨RX8, "next", "(II)I"⟩
abbrev cX8_isEvery : ByteArray := prog_10_method_7_code
def yX8_isEvery : MethodName := ⟨RX8, "isEvery", "(I)Z"⟩
abbrev cX8_ruleOf : ByteArray := prog_10_method_8_code
def yX8_ruleOf : MethodName := ⟨RX8, "ruleOf", "(I)I"⟩
def RX9 : String := "OtherName"
def TX9 : u_T := fun k => match k with
  | 0 => ("OtherName", "page", "LOtherName$Page;", true)
  | 1 => ("OtherName", "theLaw", "LOtherName$Law;", true)
  | 2 => ("OtherName", "folk", "LOtherName$Folk;", true)
  | 3 => ("OtherName", "names", "LOtherName$Names;", true)
  | 4 => ("OtherName", "mending", "LOtherName$Mending;", true)
  | 5 => ("OtherName", "guessing", "LOtherName$Guessing;", true)
  | 6 => ("OtherName", "lawSearch", "LOtherName$LawSearch;", true)
  | 7 => ("OtherName", "pairs", "LOtherName$Couples;", true)
  | 8 => ("OtherName", "kept", "LOtherName$Image;", true)
  | 9 => ("OtherName", "lawsRead", "I", false)
  | _ => ("OtherName", "mendings", "I", false)
def tyX9 : Nat → FieldType := fun k => match k with
  | 0 => .object "OtherName$Page"
  | 1 => .object "OtherName$Law"
  | 2 => .object "OtherName$Folk"
  | 3 => .object "OtherName$Names"
  | 4 => .object "OtherName$Mending"
  | 5 => .object "OtherName$Guessing"
  | 6 => .object "OtherName$LawSearch"
  | 7 => .object "OtherName$Couples"
  | 8 => .object "OtherName$Image"
  | 9 => .int
  | _ => .int
abbrev wsX90 : List Cond := u_ws RX9 TX9 11
theorem nmX9 : ∀ a, a < 11 → ∀ b, b < 11 → a ≠ b → (TX9 a).2.1 ≠ (TX9 b).2.1 := by decide +kernel
theorem tyX9_ok : ∀ k, k < 11 → parseFieldDescriptor (TX9 k).2.2.1 = some (tyX9 k) := by decide +kernel
abbrev cX9_init : ByteArray := prog_1_method_1_code
def yX9_init : MethodName := ⟨RX9, "<init>", "()V"⟩
abbrev cX9_letters : ByteArray := prog_1_method_2_code
def yX9_letters : MethodName := ⟨RX9, "letters", "(J)I"⟩
abbrev cX9_blank : ByteArray := prog_1_method_3_code
def yX9_blank : MethodName := ⟨RX9, "blank", "()I"⟩
abbrev cX9_fault : ByteArray := prog_1_method_4_code
def yX9_fault : MethodName := ⟨RX9, "fault", "()I"⟩
abbrev cX9_law : ByteArray := prog_1_method_5_code
def yX9_law : MethodName := ⟨RX9, "law", "()I"⟩
abbrev cX9_lawTold : ByteArray := prog_1_method_6_code
def yX9_lawTold : MethodName := ⟨RX9, "lawTold", "(I)I"⟩
abbrev cX9_person : ByteArray := prog_1_method_7_code
def yX9_person : MethodName := ⟨RX9, "person", "(IIIII)I"⟩
abbrev cX9_about : ByteArray := prog_1_method_8_code
def yX9_about : MethodName := ⟨RX9, "about", "(II)I"⟩
abbrev cX9_as : ByteArray := prog_1_method_9_code
def yX9_as : MethodName := ⟨RX9, "as", "(II)I"⟩
abbrev cX9_call : ByteArray := prog_1_method_10_code
def yX9_call : MethodName := ⟨RX9, "call", "(II)I"⟩
abbrev cX9_write : ByteArray := prog_1_method_11_code
def yX9_write : MethodName := ⟨RX9, "write", "(II)I"⟩
abbrev cX9_dies : ByteArray := prog_1_method_12_code
def yX9_dies : MethodName := ⟨RX9, "dies", "(I)I"⟩
abbrev cX9_wrong : ByteArray := prog_1_method_13_code
def yX9_wrong : MethodName := ⟨RX9, "wrong", "(I)I"⟩
abbrev cX9_mended : ByteArray := prog_1_method_14_code
def yX9_mended : MethodName := ⟨RX9, "mended", "(I)I"⟩
abbrev cX9_ways : ByteArray := prog_1_method_15_code
def yX9_ways : MethodName := ⟨RX9, "ways", "()I"⟩
abbrev cX9_sure : ByteArray := prog_1_method_16_code
def yX9_sure : MethodName := ⟨RX9, "sure", "(I)I"⟩
abbrev cX9_laws : ByteArray := prog_1_method_17_code
def yX9_laws : MethodName := ⟨RX9, "laws", "(I)I"⟩
abbrev cX9_near : ByteArray := prog_1_method_18_code
def yX9_near : MethodName := ⟨RX9, "near", "(II)I"⟩
abbrev cX9_kin : ByteArray := prog_1_method_19_code
def yX9_kin : MethodName := ⟨RX9, "kin", "(I)I"⟩
abbrev cX9_may : ByteArray := prog_1_method_20_code
def yX9_may : MethodName := ⟨RX9, "may", "(II)I"⟩
abbrev cX9_couples : ByteArray := prog_1_method_21_code
def yX9_couples : MethodName := ⟨RX9, "couples", "(I)I"⟩
abbrev cX9_lasts : ByteArray := prog_1_method_22_code
def yX9_lasts : MethodName := ⟨RX9, "lasts", "(I)I"⟩
abbrev cX9_image : ByteArray := prog_1_method_23_code
def yX9_image : MethodName := ⟨RX9, "image", "()I"⟩
abbrev cX9_restore : ByteArray := prog_1_method_24_code
def yX9_restore : MethodName := ⟨RX9, "restore", "()I"⟩
abbrev cX9_count : ByteArray := prog_1_method_25_code
def yX9_count : MethodName := ⟨RX9, "count", "(I)I"⟩
abbrev cX9_digest : ByteArray := prog_1_method_26_code
def yX9_digest : MethodName := ⟨RX9, "digest", "()J"⟩
abbrev cX9_digestOfPerson : ByteArray := prog_1_method_27_code
def yX9_digestOfPerson : MethodName := ⟨RX9, "digestOfPerson", "(JI)J"⟩
abbrev cX9_nameAll : ByteArray := prog_1_method_28_code
def yX9_nameAll : MethodName := ⟨RX9, "nameAll", "()V"⟩
abbrev cX9_generationsOf : ByteArray := prog_1_method_29_code
def yX9_generationsOf : MethodName := ⟨RX9, "generationsOf", "(I)I"⟩
abbrev cX9_byteOf : ByteArray := prog_1_method_30_code
def yX9_byteOf : MethodName := ⟨RX9, "byteOf", "(JI)I"⟩
abbrev cX9_isKind : ByteArray := prog_1_method_31_code
def yX9_isKind : MethodName := ⟨RX9, "isKind", "(I)Z"⟩
abbrev cX9_isName : ByteArray := prog_1_method_32_code
def yX9_isName : MethodName := ⟨RX9, "isName", "(I)Z"⟩
def RX10 : String := "OtherNameModel"
def TX10 : u_T := fun k => match k with
  | 0 => ("OtherNameModel", "page", "[I", true)
  | 1 => ("OtherNameModel", "pageMany", "I", false)
  | 2 => ("OtherNameModel", "rules", "[I", true)
  | 3 => ("OtherNameModel", "readRules", "[I", true)
  | 4 => ("OtherNameModel", "lawsRead", "I", false)
  | 5 => ("OtherNameModel", "state", "I", false)
  | 6 => ("OtherNameModel", "people", "I", false)
  | 7 => ("OtherNameModel", "gaps", "I", false)
  | 8 => ("OtherNameModel", "kinds", "[I", true)
  | 9 => ("OtherNameModel", "sexes", "[I", true)
  | 10 => ("OtherNameModel", "fathers", "[I", true)
  | 11 => ("OtherNameModel", "mothers", "[I", true)
  | 12 => ("OtherNameModel", "told", "[I", true)
  | 13 => ("OtherNameModel", "written", "[I", true)
  | 14 => ("OtherNameModel", "alive", "[I", true)
  | 15 => ("OtherNameModel", "counts", "[I", true)
  | 16 => ("OtherNameModel", "names", "[I", true)
  | 17 => ("OtherNameModel", "by", "[I", true)
  | 18 => ("OtherNameModel", "first", "[I", true)
  | 19 => ("OtherNameModel", "law", "[I", true)
  | 20 => ("OtherNameModel", "high", "[I", true)
  | 21 => ("OtherNameModel", "done", "I", false)
  | 22 => ("OtherNameModel", "alone", "[I", true)
  | 23 => ("OtherNameModel", "bestNames", "[I", true)
  | 24 => ("OtherNameModel", "mayBe", "[I", true)
  | 25 => ("OtherNameModel", "open", "[I", true)
  | 26 => ("OtherNameModel", "fit", "[I", true)
  | 27 => ("OtherNameModel", "stepsOne", "[I", true)
  | 28 => ("OtherNameModel", "stepsTwo", "[I", true)
  | 29 => ("OtherNameModel", "most", "[I", true)
  | 30 => ("OtherNameModel", "mates", "[I", true)
  | 31 => ("OtherNameModel", "womenFor", "[I", true)
  | 32 => ("OtherNameModel", "keptMany", "I", false)
  | 33 => ("OtherNameModel", "keptGaps", "I", false)
  | 34 => ("OtherNameModel", "keptRows", "[I", true)
  | _ => ("OtherNameModel", "hash", "J", false)
def tyX10 : Nat → FieldType := fun k => match k with
  | 0 => .array .int
  | 1 => .int
  | 2 => .array .int
  | 3 => .array .int
  | 4 => .int
  | 5 => .int
  | 6 => .int
  | 7 => .int
  | 8 => .array .int
  | 9 => .array .int
  | 10 => .array .int
  | 11 => .array .int
  | 12 => .array .int
  | 13 => .array .int
  | 14 => .array .int
  | 15 => .array .int
  | 16 => .array .int
  | 17 => .array .int
  | 18 => .array .int
  | 19 => .array .int
  | 20 => .array .int
  | 21 => .int
  | 22 => .array .int
  | 23 => .array .int
  | 24 => .array .int
  | 25 => .array .int
  | 26 => .array .int
  | 27 => .array .int
  | 28 => .array .int
  | 29 => .array .int
  | 30 => .array .int
  | 31 => .array .int
  | 32 => .int
  | 33 => .int
  | 34 => .array .int
  | _ => .long
abbrev wsX100 : List Cond := u_ws RX10 TX10 36
theorem nmX10 : ∀ a, a < 36 → ∀ b, b < 36 → a ≠ b → (TX10 a).2.1 ≠ (TX10 b).2.1 := by decide +kernel
theorem tyX10_ok : ∀ k, k < 36 → parseFieldDescriptor (TX10 k).2.2.1 = some (tyX10 k) := by decide +kernel
abbrev cX10_init : ByteArray := prog_12_method_1_code
def yX10_init : MethodName := ⟨RX10, "<init>", "()V"⟩
abbrev cX10_in : ByteArray := prog_12_method_2_code
def yX10_in : MethodName := ⟨RX10, "in", "(JJJ)Z"⟩
abbrev cX10_letters : ByteArray := prog_12_method_3_code
def yX10_letters : MethodName := ⟨RX10, "letters", "(J)I"⟩
abbrev cX10_blank : ByteArray := prog_12_method_4_code
def yX10_blank : MethodName := ⟨RX10, "blank", "()I"⟩
abbrev cX10_ruleOf : ByteArray := prog_12_method_5_code
def yX10_ruleOf : MethodName := ⟨RX10, "ruleOf", "(I)I"⟩
abbrev cX10_go : ByteArray := prog_12_method_6_code
def yX10_go : MethodName := ⟨RX10, "go", "(I)Z"⟩
abbrev cX10_faultOf : ByteArray := prog_12_method_7_code
def yX10_faultOf : MethodName := ⟨RX10, "faultOf", "()I"⟩
abbrev cX10_fault : ByteArray := prog_12_method_8_code
def yX10_fault : MethodName := ⟨RX10, "fault", "()I"⟩
abbrev cX10_law : ByteArray := prog_12_method_9_code
def yX10_law : MethodName := ⟨RX10, "law", "()I"⟩
abbrev cX10_lawTold : ByteArray := prog_12_method_10_code
def yX10_lawTold : MethodName := ⟨RX10, "lawTold", "(I)I"⟩
abbrev cX10_isPerson : ByteArray := prog_12_method_11_code
def yX10_isPerson : MethodName := ⟨RX10, "isPerson", "(I)Z"⟩
abbrev cX10_isAlone : ByteArray := prog_12_method_12_code
def yX10_isAlone : MethodName := ⟨RX10, "isAlone", "(I)Z"⟩
abbrev cX10_leastMan : ByteArray := prog_12_method_13_code
def yX10_leastMan : MethodName := ⟨RX10, "leastMan", "()I"⟩
abbrev cX10_areParents : ByteArray := prog_12_method_14_code
def yX10_areParents : MethodName := ⟨RX10, "areParents", "(III)Z"⟩
abbrev cX10_person : ByteArray := prog_12_method_15_code
def yX10_person : MethodName := ⟨RX10, "person", "(IIIII)I"⟩
abbrev cX10_nameBy : ByteArray := prog_12_method_16_code
def yX10_nameBy : MethodName := ⟨RX10, "nameBy", "(II)I"⟩
abbrev cX10_rowOf : ByteArray := prog_12_method_17_code
def yX10_rowOf : MethodName := ⟨RX10, "rowOf", "(II)I"⟩
abbrev cX10_nameOf : ByteArray := prog_12_method_18_code
def yX10_nameOf : MethodName := ⟨RX10, "nameOf", "(I)I"⟩
abbrev cX10_layNames : ByteArray := prog_12_method_19_code
def yX10_layNames : MethodName := ⟨RX10, "layNames", "()V"⟩
abbrev cX10_asItIs : ByteArray := prog_12_method_20_code
def yX10_asItIs : MethodName := ⟨RX10, "asItIs", "()V"⟩
abbrev cX10_reckon : ByteArray := prog_12_method_21_code
def yX10_reckon : MethodName := ⟨RX10, "reckon", "()V"⟩
abbrev cX10_wrongMany : ByteArray := prog_12_method_22_code
def yX10_wrongMany : MethodName := ⟨RX10, "wrongMany", "()I"⟩
abbrev cX10_generationOf : ByteArray := prog_12_method_23_code
def yX10_generationOf : MethodName := ⟨RX10, "generationOf", "(I)I"⟩
abbrev cX10_tell : ByteArray := prog_12_method_24_code
def yX10_tell : MethodName := ⟨RX10, "tell", "(II)I"⟩
abbrev cX10_about : ByteArray := prog_12_method_25_code
def yX10_about : MethodName := ⟨RX10, "about", "(II)I"⟩
abbrev cX10_as : ByteArray := prog_12_method_26_code
def yX10_as : MethodName := ⟨RX10, "as", "(II)I"⟩
abbrev cX10_call : ByteArray := prog_12_method_27_code
def yX10_call : MethodName := ⟨RX10, "call", "(II)I"⟩
abbrev cX10_write : ByteArray := prog_12_method_28_code
def yX10_write : MethodName := ⟨RX10, "write", "(II)I"⟩
abbrev cX10_aliveMany : ByteArray := prog_12_method_29_code
def yX10_aliveMany : MethodName := ⟨RX10, "aliveMany", "()I"⟩
abbrev cX10_dies : ByteArray := prog_12_method_30_code
def yX10_dies : MethodName := ⟨RX10, "dies", "(I)I"⟩
abbrev cX10_tellWrong : ByteArray := prog_12_method_31_code
def yX10_tellWrong : MethodName := ⟨RX10, "tellWrong", "(I)I"⟩
abbrev cX10_wrong : ByteArray := prog_12_method_32_code
def yX10_wrong : MethodName := ⟨RX10, "wrong", "(I)I"⟩
abbrev cX10_aloneMany : ByteArray := prog_12_method_33_code
def yX10_aloneMany : MethodName := ⟨RX10, "aloneMany", "()I"⟩
abbrev cX10_mended : ByteArray := prog_12_method_34_code
def yX10_mended : MethodName := ⟨RX10, "mended", "(I)I"⟩
abbrev cX10_isMan : ByteArray := prog_12_method_35_code
def yX10_isMan : MethodName := ⟨RX10, "isMan", "(II)Z"⟩
abbrev cX10_layWays : ByteArray := prog_12_method_36_code
def yX10_layWays : MethodName := ⟨RX10, "layWays", "()I"⟩
abbrev cX10_ways : ByteArray := prog_12_method_37_code
def yX10_ways : MethodName := ⟨RX10, "ways", "()I"⟩
abbrev cX10_sureNow : ByteArray := prog_12_method_38_code
def yX10_sureNow : MethodName := ⟨RX10, "sureNow", "(I)I"⟩
abbrev cX10_sure : ByteArray := prog_12_method_39_code
def yX10_sure : MethodName := ⟨RX10, "sure", "(I)I"⟩
abbrev cX10_tryLaw : ByteArray := prog_12_method_40_code
def yX10_tryLaw : MethodName := ⟨RX10, "tryLaw", "(III)V"⟩
abbrev cX10_layLaws : ByteArray := prog_12_method_41_code
def yX10_layLaws : MethodName := ⟨RX10, "layLaws", "()V"⟩
abbrev cX10_laws : ByteArray := prog_12_method_42_code
def yX10_laws : MethodName := ⟨RX10, "laws", "(I)I"⟩
abbrev cX10_laySteps : ByteArray := prog_12_method_43_code
def yX10_laySteps : MethodName := ⟨RX10, "laySteps", "(I[I)V"⟩
abbrev cX10_nearOf : ByteArray := prog_12_method_44_code
def yX10_nearOf : MethodName := ⟨RX10, "nearOf", "(II)I"⟩
abbrev cX10_near : ByteArray := prog_12_method_45_code
def yX10_near : MethodName := ⟨RX10, "near", "(II)I"⟩
abbrev cX10_kinOf : ByteArray := prog_12_method_46_code
def yX10_kinOf : MethodName := ⟨RX10, "kinOf", "(I)I"⟩
abbrev cX10_kin : ByteArray := prog_12_method_47_code
def yX10_kin : MethodName := ⟨RX10, "kin", "(I)I"⟩
abbrev cX10_mayWed : ByteArray := prog_12_method_48_code
def yX10_mayWed : MethodName := ⟨RX10, "mayWed", "(II)Z"⟩
abbrev cX10_may : ByteArray := prog_12_method_49_code
def yX10_may : MethodName := ⟨RX10, "may", "(II)I"⟩
abbrev cX10_layMost : ByteArray := prog_12_method_50_code
def yX10_layMost : MethodName := ⟨RX10, "layMost", "()V"⟩
abbrev cX10_layCouples : ByteArray := prog_12_method_51_code
def yX10_layCouples : MethodName := ⟨RX10, "layCouples", "()I"⟩
abbrev cX10_couples : ByteArray := prog_12_method_52_code
def yX10_couples : MethodName := ⟨RX10, "couples", "(I)I"⟩
abbrev cX10_lastsOf : ByteArray := prog_12_method_53_code
def yX10_lastsOf : MethodName := ⟨RX10, "lastsOf", "(I)I"⟩
abbrev cX10_lasts : ByteArray := prog_12_method_54_code
def yX10_lasts : MethodName := ⟨RX10, "lasts", "(I)I"⟩
abbrev cX10_image : ByteArray := prog_12_method_55_code
def yX10_image : MethodName := ⟨RX10, "image", "()I"⟩
abbrev cX10_restore : ByteArray := prog_12_method_56_code
def yX10_restore : MethodName := ⟨RX10, "restore", "()I"⟩
abbrev cX10_writtenMany : ByteArray := prog_12_method_57_code
def yX10_writtenMany : MethodName := ⟨RX10, "writtenMany", "()I"⟩
abbrev cX10_countOf : ByteArray := prog_12_method_58_code
def yX10_countOf : MethodName := ⟨RX10, "countOf", "(I)I"⟩
abbrev cX10_count : ByteArray := prog_12_method_59_code
def yX10_count : MethodName := ⟨RX10, "count", "(I)I"⟩
abbrev cX10_say : ByteArray := prog_12_method_60_code
def yX10_say : MethodName := ⟨RX10, "say", "(J)V"⟩
abbrev cX10_digest : ByteArray := prog_12_method_61_code
def yX10_digest : MethodName := ⟨RX10, "digest", "()J"⟩
def RJ6 : String := "java/lang/Integer"
def TJ6 : u_T := fun k => match k with
  | _ => ("", "", "", false)
def tyJ6 : Nat → FieldType := fun k => match k with
  | _ => .int
abbrev wsJ60 : List Cond := u_ws RJ6 TJ6 0
theorem nmJ6 : ∀ a, a < 0 → ∀ b, b < 0 → a ≠ b → (TJ6 a).2.1 ≠ (TJ6 b).2.1 := by decide +kernel
theorem tyJ6_ok : ∀ k, k < 0 → parseFieldDescriptor (TJ6 k).2.2.1 = some (tyJ6 k) := by decide +kernel
abbrev cJ6_bitCount_0f7a4 : ByteArray := prog_13_method_49_code
def yJ6_bitCount_0f7a4 : MethodName := ⟨RJ6, "bitCount", "(I)I"⟩
def RJ9 : String := "java/lang/Math"
def TJ9 : u_T := fun k => match k with
  | _ => ("", "", "", false)
def tyJ9 : Nat → FieldType := fun k => match k with
  | _ => .int
abbrev wsJ90 : List Cond := u_ws RJ9 TJ9 0
theorem nmJ9 : ∀ a, a < 0 → ∀ b, b < 0 → a ≠ b → (TJ9 a).2.1 ≠ (TJ9 b).2.1 := by decide +kernel
theorem tyJ9_ok : ∀ k, k < 0 → parseFieldDescriptor (TJ9 k).2.2.1 = some (tyJ9 k) := by decide +kernel
abbrev cJ9_max_7cf53 : ByteArray := prog_14_method_65_code
def yJ9_max_7cf53 : MethodName := ⟨RJ9, "max", "(II)I"⟩
abbrev cJ9_min_7cf53 : ByteArray := prog_14_method_69_code
def yJ9_min_7cf53 : MethodName := ⟨RJ9, "min", "(II)I"⟩
def RL : String := "OtherNameLaw"
abbrev cL_law : ByteArray := code
def yL_law : MethodName := ⟨RL, "law", "([I)Z"⟩
set_option maxRecDepth 20000 in
abbrev vwCl : List vw_C := [(RX0, TX0, 7), (RX1, TX1, 11), (RX2, TX2, 9), (RX3, TX3, 5), (RX4, TX4, 4), (RX5, TX5, 5), (RX6, TX6, 7), (RX7, TX7, 3), (RX8, TX8, 2), (RX9, TX9, 11), (RX10, TX10, 36)]
theorem am_inl {big ws : List Cond} (ps : List Nat) (h : ps.map (fun i => big[i]?) = ws.map some) : ∀ w ∈ ws, w ∈ big := by
  intro w hw
  have h1 : some w ∈ ws.map some := List.mem_map.mpr ⟨w, hw, rfl⟩
  rw [← h] at h1
  obtain ⟨i, -, hi⟩ := List.mem_map.mp h1
  exact List.mem_of_getElem? hi
set_option maxRecDepth 20000 in
theorem inX0 : ∀ w ∈ wsX00, w ∈ lw_tbl := am_inl [319, 321, 323, 325, 327, 329, 331] (by decide +kernel)
set_option maxRecDepth 20000 in
theorem inX1 : ∀ w ∈ wsX10, w ∈ lw_tbl := am_inl [173, 175, 177, 179, 181, 183, 185, 187, 189, 191, 193] (by decide +kernel)
set_option maxRecDepth 20000 in
theorem inX2 : ∀ w ∈ wsX20, w ∈ lw_tbl := am_inl [261, 263, 265, 267, 269, 271, 273, 275, 277] (by decide +kernel)
set_option maxRecDepth 20000 in
theorem inX3 : ∀ w ∈ wsX30, w ∈ lw_tbl := am_inl [346, 348, 350, 352, 354] (by decide +kernel)
set_option maxRecDepth 20000 in
theorem inX4 : ∀ w ∈ wsX40, w ∈ lw_tbl := am_inl [117, 119, 121, 123] (by decide +kernel)
set_option maxRecDepth 20000 in
theorem inX5 : ∀ w ∈ wsX50, w ∈ lw_tbl := am_inl [293, 295, 297, 299, 301] (by decide +kernel)
set_option maxRecDepth 20000 in
theorem inX6 : ∀ w ∈ wsX60, w ∈ lw_tbl := am_inl [229, 231, 233, 235, 237, 239, 241] (by decide +kernel)
set_option maxRecDepth 20000 in
theorem inX7 : ∀ w ∈ wsX70, w ∈ lw_tbl := am_inl [208, 210, 212] (by decide +kernel)
set_option maxRecDepth 20000 in
theorem inX8 : ∀ w ∈ wsX80, w ∈ lw_tbl := am_inl [85, 87] (by decide +kernel)
set_option maxRecDepth 20000 in
theorem inX9 : ∀ w ∈ wsX90, w ∈ lw_tbl := am_inl [368, 370, 372, 374, 376, 378, 380, 382, 384, 386, 388] (by decide +kernel)
set_option maxRecDepth 20000 in
theorem inX10 : ∀ w ∈ wsX100, w ∈ lw_tbl := am_inl [785, 787, 789, 791, 793, 795, 797, 799, 801, 803, 805, 807, 809, 811, 813, 815, 817, 819, 821, 823, 825, 827, 829, 831, 833, 835, 837, 839, 841, 843, 845, 847, 849, 851, 853, 855] (by decide +kernel)
