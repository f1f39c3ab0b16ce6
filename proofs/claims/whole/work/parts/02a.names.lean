/-! ===== BEGIN words of one list among another's, by their places ===== -/
theorem goodIn_r {big : List Cond} (ws : List Cond) (ps : List Nat) (hp : ws = ps.filterMap (fun i => big[i]?)) (h : ws.all goodWord = true) : GoodIn big ws := by
  intro w hw
  have h1 := List.all_eq_true.mp h w hw
  rw [hp] at hw
  obtain ⟨i, -, hi⟩ := List.mem_filterMap.mp hw
  have hm : w ∈ big := by first | exact List.mem_of_getElem? hi | exact List.getElem?_mem hi
  exact ⟨hm, good_of_word h1⟩
theorem goodIn_app {big a b : List Cond} (ha : GoodIn big a) (hb : GoodIn big b) : GoodIn big (a ++ b) := fun w h => (List.mem_append.mp h).elim (ha w) (hb w)
theorem goodIn_ca {big a b : List Cond} {c : Cond} (ha : GoodIn big (c :: a)) (hb : GoodIn big b) : GoodIn big (c :: (a ++ b)) := fun w h => (List.mem_cons.mp h).elim (fun e => ha w (List.mem_cons.mpr (Or.inl e))) (fun h => (List.mem_append.mp h).elim (fun h => ha w (List.mem_cons.mpr (Or.inr h))) (hb w))
theorem goodIn_sub {big ws : List Cond} (hm : ∀ w ∈ ws, w ∈ big) (h : ws.all goodWord = true) : GoodIn big ws := fun w hw => ⟨hm w hw, good_of_word (List.all_eq_true.mp h w hw)⟩
/-! ===== END ===== -/

/-! ===== BEGIN printed: names, fields, word lists, decode rows ===== -/
def RX0 : String := "OneJohn$Claims"
def TX0 : u_T := fun k => match k with
  | 0 => ("OneJohn$Claims", "subjects", "[I", true)
  | 1 => ("OneJohn$Claims", "answers", "[I", true)
  | _ => ("OneJohn$Claims", "size", "I", false)
def tyX0 : Nat → FieldType := fun k => match k with
  | 0 => .array .int
  | 1 => .array .int
  | _ => .int
abbrev wsX00 : List Cond := u_ws RX0 TX0 3
theorem nmX0 : ∀ a, a < 3 → ∀ b, b < 3 → a ≠ b → (TX0 a).2.1 ≠ (TX0 b).2.1 := by decide +kernel
theorem tyX0_ok : ∀ k, k < 3 → parseFieldDescriptor (TX0 k).2.2.1 = some (tyX0 k) := by decide +kernel
abbrev cX0_init : ByteArray := prog_2_method_1_code
def yX0_init : MethodName := ⟨RX0, "<init>", "()V"⟩
abbrev cX0_add : ByteArray := prog_2_method_2_code
def yX0_add : MethodName := ⟨RX0, "add", "(II)I"⟩
abbrev cX0_agree : ByteArray := prog_2_method_3_code
def yX0_agree : MethodName := ⟨RX0, "agree", "(I)Z"⟩
def RX1 : String := "OneJohn$Land"
def TX1 : u_T := fun k => match k with
  | 0 => ("OneJohn$Land", "favours", "[I", true)
  | 1 => ("OneJohn$Land", "foes", "[I", true)
  | 2 => ("OneJohn$Land", "due", "[I", true)
  | 3 => ("OneJohn$Land", "now", "LOneJohn$Now;", true)
  | 4 => ("OneJohn$Land", "nameCount", "I", false)
  | _ => ("OneJohn$Land", "people", "I", false)
def tyX1 : Nat → FieldType := fun k => match k with
  | 0 => .array .int
  | 1 => .array .int
  | 2 => .array .int
  | 3 => .object "OneJohn$Now"
  | 4 => .int
  | _ => .int
abbrev wsX10 : List Cond := u_ws RX1 TX1 6
theorem nmX1 : ∀ a, a < 6 → ∀ b, b < 6 → a ≠ b → (TX1 a).2.1 ≠ (TX1 b).2.1 := by decide +kernel
theorem tyX1_ok : ∀ k, k < 6 → parseFieldDescriptor (TX1 k).2.2.1 = some (tyX1 k) := by decide +kernel
abbrev cX1_init : ByteArray := prog_3_method_1_code
def yX1_init : MethodName := ⟨RX1, "<init>", "()V"⟩
abbrev cX1_empty : ByteArray := prog_3_method_2_code
def yX1_empty : MethodName := ⟨RX1, "empty", "()V"⟩
abbrev cX1_take : ByteArray := prog_3_method_3_code
def yX1_take : MethodName := ⟨RX1, "take", "(LOneJohn$Land;)V"⟩
abbrev cX1_addPerson : ByteArray := prog_3_method_4_code
def yX1_addPerson : MethodName := ⟨RX1, "addPerson", "(III)V"⟩
abbrev cX1_hasPerson : ByteArray := prog_3_method_5_code
def yX1_hasPerson : MethodName := ⟨RX1, "hasPerson", "(I)Z"⟩
abbrev cX1_hasName : ByteArray := prog_3_method_6_code
def yX1_hasName : MethodName := ⟨RX1, "hasName", "(I)Z"⟩
abbrev cX1_quarrel : ByteArray := prog_3_method_7_code
def yX1_quarrel : MethodName := ⟨RX1, "quarrel", "(II)Z"⟩
abbrev cX1_bearers : ByteArray := prog_3_method_8_code
def yX1_bearers : MethodName := ⟨RX1, "bearers", "(I)I"⟩
abbrev cX1_wealthOf : ByteArray := prog_3_method_9_code
def yX1_wealthOf : MethodName := ⟨RX1, "wealthOf", "(I)I"⟩
abbrev cX1_limping : ByteArray := prog_3_method_10_code
def yX1_limping : MethodName := ⟨RX1, "limping", "()I"⟩
abbrev cX1_limpingIf : ByteArray := prog_3_method_11_code
def yX1_limpingIf : MethodName := ⟨RX1, "limpingIf", "(II)I"⟩
abbrev cX1_fame : ByteArray := prog_3_method_12_code
def yX1_fame : MethodName := ⟨RX1, "fame", "(I)I"⟩
abbrev cX1_tax : ByteArray := prog_3_method_13_code
def yX1_tax : MethodName := ⟨RX1, "tax", "(I)I"⟩
abbrev cX1_taxIfNamed : ByteArray := prog_3_method_14_code
def yX1_taxIfNamed : MethodName := ⟨RX1, "taxIfNamed", "(II)I"⟩
abbrev cX1_payTax : ByteArray := prog_3_method_15_code
def yX1_payTax : MethodName := ⟨RX1, "payTax", "()I"⟩
abbrev cX1_cheapestName : ByteArray := prog_3_method_16_code
def yX1_cheapestName : MethodName := ⟨RX1, "cheapestName", "(I)I"⟩
abbrev cX1_restless : ByteArray := prog_3_method_17_code
def yX1_restless : MethodName := ⟨RX1, "restless", "()I"⟩
abbrev cX1_alone : ByteArray := prog_3_method_18_code
def yX1_alone : MethodName := ⟨RX1, "alone", "()I"⟩
abbrev cX1_badOnes : ByteArray := prog_3_method_19_code
def yX1_badOnes : MethodName := ⟨RX1, "badOnes", "()I"⟩
abbrev cX1_sayers : ByteArray := prog_3_method_20_code
def yX1_sayers : MethodName := ⟨RX1, "sayers", "(II)I"⟩
abbrev cX1_votes : ByteArray := prog_3_method_21_code
def yX1_votes : MethodName := ⟨RX1, "votes", "(IIII)I"⟩
abbrev cX1_yes : ByteArray := prog_3_method_22_code
def yX1_yes : MethodName := ⟨RX1, "yes", "(III)I"⟩
abbrev cX1_no : ByteArray := prog_3_method_23_code
def yX1_no : MethodName := ⟨RX1, "no", "(III)I"⟩
abbrev cX1_passes : ByteArray := prog_3_method_24_code
def yX1_passes : MethodName := ⟨RX1, "passes", "(III)Z"⟩
abbrev cX1_passing : ByteArray := prog_3_method_25_code
def yX1_passing : MethodName := ⟨RX1, "passing", "(I)I"⟩
abbrev cX1_sway : ByteArray := prog_3_method_26_code
def yX1_sway : MethodName := ⟨RX1, "sway", "(I)I"⟩
def RX2 : String := "OneJohn$Now"
def TX2 : u_T := fun k => match k with
  | 0 => ("OneJohn$Now", "names", "[I", true)
  | 1 => ("OneJohn$Now", "wealth", "[I", true)
  | 2 => ("OneJohn$Now", "deeds", "[I", true)
  | 3 => ("OneJohn$Now", "hurt", "I", false)
  | 4 => ("OneJohn$Now", "laws", "I", false)
  | 5 => ("OneJohn$Now", "chest", "I", false)
  | _ => ("OneJohn$Now", "years", "I", false)
def tyX2 : Nat → FieldType := fun k => match k with
  | 0 => .array .int
  | 1 => .array .int
  | 2 => .array .int
  | 3 => .int
  | 4 => .int
  | 5 => .int
  | _ => .int
abbrev wsX20 : List Cond := u_ws RX2 TX2 7
theorem nmX2 : ∀ a, a < 7 → ∀ b, b < 7 → a ≠ b → (TX2 a).2.1 ≠ (TX2 b).2.1 := by decide +kernel
theorem tyX2_ok : ∀ k, k < 7 → parseFieldDescriptor (TX2 k).2.2.1 = some (tyX2 k) := by decide +kernel
abbrev cX2_init : ByteArray := prog_4_method_1_code
def yX2_init : MethodName := ⟨RX2, "<init>", "()V"⟩
abbrev cX2_take : ByteArray := prog_4_method_2_code
def yX2_take : MethodName := ⟨RX2, "take", "(LOneJohn$Now;)V"⟩
def RX3 : String := "OneJohn$Past"
def TX3 : u_T := fun k => match k with
  | 0 => ("OneJohn$Past", "rows", "[LOneJohn$Now;", true)
  | 1 => ("OneJohn$Past", "next", "I", false)
  | _ => ("OneJohn$Past", "size", "I", false)
def tyX3 : Nat → FieldType := fun k => match k with
  | 0 => .array (.object "OneJohn$Now")
  | 1 => .int
  | _ => .int
abbrev wsX30 : List Cond := u_ws RX3 TX3 3
theorem nmX3 : ∀ a, a < 3 → ∀ b, b < 3 → a ≠ b → (TX3 a).2.1 ≠ (TX3 b).2.1 := by decide +kernel
theorem tyX3_ok : ∀ k, k < 3 → parseFieldDescriptor (TX3 k).2.2.1 = some (tyX3 k) := by decide +kernel
abbrev cX3_init : ByteArray := prog_5_method_1_code
def yX3_init : MethodName := ⟨RX3, "<init>", "()V"⟩
abbrev cX3_remember : ByteArray := prog_5_method_2_code
def yX3_remember : MethodName := ⟨RX3, "remember", "(LOneJohn$Now;)V"⟩
abbrev cX3_recall : ByteArray := prog_5_method_3_code
def yX3_recall : MethodName := ⟨RX3, "recall", "(LOneJohn$Now;)V"⟩
def RX4 : String := "OneJohn$Reader"
def TX4 : u_T := fun k => match k with
  | 0 => ("OneJohn$Reader", "draft", "LOneJohn$Land;", true)
  | 1 => ("OneJohn$Reader", "place", "I", false)
  | 2 => ("OneJohn$Reader", "start", "I", false)
  | 3 => ("OneJohn$Reader", "token", "I", false)
  | 4 => ("OneJohn$Reader", "value", "I", false)
  | _ => ("OneJohn$Reader", "lawsTold", "Z", false)
def tyX4 : Nat → FieldType := fun k => match k with
  | 0 => .object "OneJohn$Land"
  | 1 => .int
  | 2 => .int
  | 3 => .int
  | 4 => .int
  | _ => .boolean
abbrev wsX40 : List Cond := u_ws RX4 TX4 6
theorem nmX4 : ∀ a, a < 6 → ∀ b, b < 6 → a ≠ b → (TX4 a).2.1 ≠ (TX4 b).2.1 := by decide +kernel
theorem tyX4_ok : ∀ k, k < 6 → parseFieldDescriptor (TX4 k).2.2.1 = some (tyX4 k) := by decide +kernel
abbrev cX4_init : ByteArray := prog_6_method_1_code
def yX4_init : MethodName := ⟨RX4, "<init>", "()V"⟩
abbrev cX4_read : ByteArray := prog_6_method_2_code
def yX4_read : MethodName := ⟨RX4, "read", "(LOneJohn$Text;)I"⟩
abbrev cX4_readItem : ByteArray := prog_6_method_3_code
def yX4_readItem : MethodName := ⟨RX4, "readItem", "(LOneJohn$Text;I)Z"⟩
abbrev cX4_readNames : ByteArray := prog_6_method_4_code
def yX4_readNames : MethodName := ⟨RX4, "readNames", "(LOneJohn$Text;)Z"⟩
abbrev cX4_readPerson : ByteArray := prog_6_method_5_code
def yX4_readPerson : MethodName := ⟨RX4, "readPerson", "(LOneJohn$Text;)Z"⟩
abbrev cX4_readQuarrel : ByteArray := prog_6_method_6_code
def yX4_readQuarrel : MethodName := ⟨RX4, "readQuarrel", "(LOneJohn$Text;)Z"⟩
abbrev cX4_readLaws : ByteArray := prog_6_method_7_code
def yX4_readLaws : MethodName := ⟨RX4, "readLaws", "(LOneJohn$Text;)Z"⟩
abbrev cX4_readNumber : ByteArray := prog_6_method_8_code
def yX4_readNumber : MethodName := ⟨RX4, "readNumber", "(LOneJohn$Text;II)Z"⟩
abbrev cX4_isEnded : ByteArray := prog_6_method_9_code
def yX4_isEnded : MethodName := ⟨RX4, "isEnded", "(LOneJohn$Text;)Z"⟩
abbrev cX4_nextToken : ByteArray := prog_6_method_10_code
def yX4_nextToken : MethodName := ⟨RX4, "nextToken", "(LOneJohn$Text;)V"⟩
abbrev cX4_takeNumber : ByteArray := prog_6_method_11_code
def yX4_takeNumber : MethodName := ⟨RX4, "takeNumber", "(LOneJohn$Text;)V"⟩
abbrev cX4_isDigit : ByteArray := prog_6_method_12_code
def yX4_isDigit : MethodName := ⟨RX4, "isDigit", "(I)Z"⟩
def RX5 : String := "OneJohn$Renaming"
def TX5 : u_T := fun k => match k with
  | 0 => ("OneJohn$Renaming", "way", "[I", true)
  | 1 => ("OneJohn$Renaming", "best", "[I", true)
  | _ => ("OneJohn$Renaming", "fewest", "I", false)
def tyX5 : Nat → FieldType := fun k => match k with
  | 0 => .array .int
  | 1 => .array .int
  | _ => .int
abbrev wsX50 : List Cond := u_ws RX5 TX5 3
theorem nmX5 : ∀ a, a < 3 → ∀ b, b < 3 → a ≠ b → (TX5 a).2.1 ≠ (TX5 b).2.1 := by decide +kernel
theorem tyX5_ok : ∀ k, k < 3 → parseFieldDescriptor (TX5 k).2.2.1 = some (tyX5 k) := by decide +kernel
abbrev cX5_init : ByteArray := prog_7_method_1_code
def yX5_init : MethodName := ⟨RX5, "<init>", "()V"⟩
abbrev cX5_search : ByteArray := prog_7_method_2_code
def yX5_search : MethodName := ⟨RX5, "search", "(LOneJohn$Land;)V"⟩
abbrev cX5_found : ByteArray := prog_7_method_3_code
def yX5_found : MethodName := ⟨RX5, "found", "()Z"⟩
abbrev cX5_nameFrom : ByteArray := prog_7_method_4_code
def yX5_nameFrom : MethodName := ⟨RX5, "nameFrom", "(LOneJohn$Land;II)V"⟩
abbrev cX5_isFree : ByteArray := prog_7_method_5_code
def yX5_isFree : MethodName := ⟨RX5, "isFree", "(LOneJohn$Land;II)Z"⟩
def RX6 : String := "OneJohn$Text"
def TX6 : u_T := fun k => match k with
  | 0 => ("OneJohn$Text", "letters", "[I", true)
  | _ => ("OneJohn$Text", "length", "I", false)
def tyX6 : Nat → FieldType := fun k => match k with
  | 0 => .array .int
  | _ => .int
abbrev wsX60 : List Cond := u_ws RX6 TX6 2
theorem nmX6 : ∀ a, a < 2 → ∀ b, b < 2 → a ≠ b → (TX6 a).2.1 ≠ (TX6 b).2.1 := by decide +kernel
theorem tyX6_ok : ∀ k, k < 2 → parseFieldDescriptor (TX6 k).2.2.1 = some (tyX6 k) := by decide +kernel
abbrev cX6_init : ByteArray := prog_8_method_1_code
def yX6_init : MethodName := ⟨RX6, "<init>", "()V"⟩
def RX7 : String := "OneJohn$Wedding"
def TX7 : u_T := fun k => match k with
  | 0 => ("OneJohn$Wedding", "way", "[I", true)
  | 1 => ("OneJohn$Wedding", "best", "[I", true)
  | _ => ("OneJohn$Wedding", "most", "I", false)
def tyX7 : Nat → FieldType := fun k => match k with
  | 0 => .array .int
  | 1 => .array .int
  | _ => .int
abbrev wsX70 : List Cond := u_ws RX7 TX7 3
theorem nmX7 : ∀ a, a < 3 → ∀ b, b < 3 → a ≠ b → (TX7 a).2.1 ≠ (TX7 b).2.1 := by decide +kernel
theorem tyX7_ok : ∀ k, k < 3 → parseFieldDescriptor (TX7 k).2.2.1 = some (tyX7 k) := by decide +kernel
abbrev cX7_init : ByteArray := prog_9_method_1_code
def yX7_init : MethodName := ⟨RX7, "<init>", "()V"⟩
abbrev cX7_search : ByteArray := prog_9_method_2_code
def yX7_search : MethodName := ⟨RX7, "search", "(LOneJohn$Land;)V"⟩
abbrev cX7_pairFrom : ByteArray := prog_9_method_3_code
def yX7_pairFrom : MethodName := ⟨RX7, "pairFrom", "(LOneJohn$Land;II)V"⟩
abbrev cX7_mayMarry : ByteArray := prog_9_method_4_code
def yX7_mayMarry : MethodName := ⟨RX7, "mayMarry", "(LOneJohn$Land;II)Z"⟩
def RX8 : String := "OneJohn"
def TX8 : u_T := fun k => match k with
  | 0 => ("OneJohn", "text", "LOneJohn$Text;", true)
  | 1 => ("OneJohn", "reader", "LOneJohn$Reader;", true)
  | 2 => ("OneJohn", "land", "LOneJohn$Land;", true)
  | 3 => ("OneJohn", "past", "LOneJohn$Past;", true)
  | 4 => ("OneJohn", "told", "LOneJohn$Claims;", true)
  | 5 => ("OneJohn", "records", "LOneJohn$Claims;", true)
  | 6 => ("OneJohn", "renaming", "LOneJohn$Renaming;", true)
  | 7 => ("OneJohn", "wedding", "LOneJohn$Wedding;", true)
  | 8 => ("OneJohn", "images", "[LOneJohn$Now;", true)
  | 9 => ("OneJohn", "kept", "[Z", true)
  | _ => ("OneJohn", "trace", "J", false)
def tyX8 : Nat → FieldType := fun k => match k with
  | 0 => .object "OneJohn$Text"
  | 1 => .object "OneJohn$Reader"
  | 2 => .object "OneJohn$Land"
  | 3 => .object "OneJohn$Past"
  | 4 => .object "OneJohn$Claims"
  | 5 => .object "OneJohn$Claims"
  | 6 => .object "OneJohn$Renaming"
  | 7 => .object "OneJohn$Wedding"
  | 8 => .array (.object "OneJohn$Now")
  | 9 => .array .boolean
  | _ => .long
abbrev wsX80 : List Cond := u_ws RX8 TX8 11
theorem nmX8 : ∀ a, a < 11 → ∀ b, b < 11 → a ≠ b → (TX8 a).2.1 ≠ (TX8 b).2.1 := by decide +kernel
theorem tyX8_ok : ∀ k, k < 11 → parseFieldDescriptor (TX8 k).2.2.1 = some (tyX8 k) := by decide +kernel
abbrev cX8_init : ByteArray := prog_1_method_1_code
def yX8_init : MethodName := ⟨RX8, "<init>", "()V"⟩
abbrev cX8_type : ByteArray := prog_1_method_2_code
def yX8_type : MethodName := ⟨RX8, "type", "(I)I"⟩
abbrev cX8_clear : ByteArray := prog_1_method_3_code
def yX8_clear : MethodName := ⟨RX8, "clear", "()I"⟩
abbrev cX8_republic : ByteArray := prog_1_method_4_code
def yX8_republic : MethodName := ⟨RX8, "republic", "()I"⟩
abbrev cX8_person : ByteArray := prog_1_method_5_code
def yX8_person : MethodName := ⟨RX8, "person", "(II)I"⟩
abbrev cX8_quarrels : ByteArray := prog_1_method_6_code
def yX8_quarrels : MethodName := ⟨RX8, "quarrels", "(I)I"⟩
abbrev cX8_name : ByteArray := prog_1_method_7_code
def yX8_name : MethodName := ⟨RX8, "name", "(II)I"⟩
abbrev cX8_bill : ByteArray := prog_1_method_8_code
def yX8_bill : MethodName := ⟨RX8, "bill", "(II)I"⟩
abbrev cX8_now : ByteArray := prog_1_method_9_code
def yX8_now : MethodName := ⟨RX8, "now", "(I)I"⟩
abbrev cX8_hurts : ByteArray := prog_1_method_10_code
def yX8_hurts : MethodName := ⟨RX8, "hurts", "(II)I"⟩
abbrev cX8_deeds : ByteArray := prog_1_method_11_code
def yX8_deeds : MethodName := ⟨RX8, "deeds", "(I)I"⟩
abbrev cX8_earns : ByteArray := prog_1_method_12_code
def yX8_earns : MethodName := ⟨RX8, "earns", "(II)I"⟩
abbrev cX8_names : ByteArray := prog_1_method_13_code
def yX8_names : MethodName := ⟨RX8, "names", "(II)I"⟩
abbrev cX8_laws : ByteArray := prog_1_method_14_code
def yX8_laws : MethodName := ⟨RX8, "laws", "(I)I"⟩
abbrev cX8_year : ByteArray := prog_1_method_15_code
def yX8_year : MethodName := ⟨RX8, "year", "()I"⟩
abbrev cX8_undo : ByteArray := prog_1_method_16_code
def yX8_undo : MethodName := ⟨RX8, "undo", "()I"⟩
abbrev cX8_apart : ByteArray := prog_1_method_17_code
def yX8_apart : MethodName := ⟨RX8, "apart", "(I)I"⟩
abbrev cX8_cheapest : ByteArray := prog_1_method_18_code
def yX8_cheapest : MethodName := ⟨RX8, "cheapest", "(I)I"⟩
abbrev cX8_tells : ByteArray := prog_1_method_19_code
def yX8_tells : MethodName := ⟨RX8, "tells", "(II)I"⟩
abbrev cX8_record : ByteArray := prog_1_method_20_code
def yX8_record : MethodName := ⟨RX8, "record", "(II)I"⟩
abbrev cX8_forget : ByteArray := prog_1_method_21_code
def yX8_forget : MethodName := ⟨RX8, "forget", "()I"⟩
abbrev cX8_who : ByteArray := prog_1_method_22_code
def yX8_who : MethodName := ⟨RX8, "who", "()I"⟩
abbrev cX8_which : ByteArray := prog_1_method_23_code
def yX8_which : MethodName := ⟨RX8, "which", "(I)I"⟩
abbrev cX8_allIsSo : ByteArray := prog_1_method_24_code
def yX8_allIsSo : MethodName := ⟨RX8, "allIsSo", "(I)Z"⟩
abbrev cX8_married : ByteArray := prog_1_method_25_code
def yX8_married : MethodName := ⟨RX8, "married", "(I)I"⟩
abbrev cX8_odds : ByteArray := prog_1_method_26_code
def yX8_odds : MethodName := ⟨RX8, "odds", "(IIII)I"⟩
abbrev cX8_christenings : ByteArray := prog_1_method_27_code
def yX8_christenings : MethodName := ⟨RX8, "christenings", "(II)I"⟩
abbrev cX8_rate : ByteArray := prog_1_method_28_code
def yX8_rate : MethodName := ⟨RX8, "rate", "(II)I"⟩
abbrev cX8_rateAs : ByteArray := prog_1_method_29_code
def yX8_rateAs : MethodName := ⟨RX8, "rateAs", "(II)I"⟩
abbrev cX8_keep : ByteArray := prog_1_method_30_code
def yX8_keep : MethodName := ⟨RX8, "keep", "(I)I"⟩
abbrev cX8_back : ByteArray := prog_1_method_31_code
def yX8_back : MethodName := ⟨RX8, "back", "(I)I"⟩
abbrev cX8_count : ByteArray := prog_1_method_32_code
def yX8_count : MethodName := ⟨RX8, "count", "(I)I"⟩
abbrev cX8_trace : ByteArray := prog_1_method_33_code
def yX8_trace : MethodName := ⟨RX8, "trace", "()J"⟩
abbrev cX8_within : ByteArray := prog_1_method_34_code
def yX8_within : MethodName := ⟨RX8, "within", "(III)Z"⟩
abbrev cX8_bit : ByteArray := prog_1_method_35_code
def yX8_bit : MethodName := ⟨RX8, "bit", "(II)I"⟩
abbrev cX8_inLeastTerms : ByteArray := prog_1_method_36_code
def yX8_inLeastTerms : MethodName := ⟨RX8, "inLeastTerms", "(II)I"⟩
abbrev cX8_commonDivisor : ByteArray := prog_1_method_37_code
def yX8_commonDivisor : MethodName := ⟨RX8, "commonDivisor", "(II)I"⟩
abbrev cX8_power : ByteArray := prog_1_method_38_code
def yX8_power : MethodName := ⟨RX8, "power", "(II)I"⟩
abbrev cX8_choices : ByteArray := prog_1_method_39_code
def yX8_choices : MethodName := ⟨RX8, "choices", "(II)I"⟩
def RX9 : String := "OneJohnModel"
def TX9 : u_T := fun k => match k with
  | 0 => ("OneJohnModel", "thrown", "I", false)
  | 1 => ("OneJohnModel", "trace", "J", false)
  | 2 => ("OneJohnModel", "text", "[I", true)
  | 3 => ("OneJohnModel", "typed", "I", false)
  | 4 => ("OneJohnModel", "next", "I", false)
  | 5 => ("OneJohnModel", "token", "I", false)
  | 6 => ("OneJohnModel", "place", "I", false)
  | 7 => ("OneJohnModel", "value", "I", false)
  | 8 => ("OneJohnModel", "fault", "I", false)
  | 9 => ("OneJohnModel", "many", "[I", true)
  | 10 => ("OneJohnModel", "name", "[I", true)
  | 11 => ("OneJohnModel", "wealth", "[I", true)
  | 12 => ("OneJohnModel", "bills", "[I", true)
  | 13 => ("OneJohnModel", "quarrel", "[I", true)
  | 14 => ("OneJohnModel", "isLawTold", "Z", false)
  | 15 => ("OneJohnModel", "s", "[I", true)
  | 16 => ("OneJohnModel", "w", "[I", true)
  | 17 => ("OneJohnModel", "kept", "[I", true)
  | 18 => ("OneJohnModel", "isKept", "[Z", true)
  | 19 => ("OneJohnModel", "undos", "[I", true)
  | 20 => ("OneJohnModel", "undoMany", "I", false)
  | 21 => ("OneJohnModel", "toldOf", "[I", true)
  | 22 => ("OneJohnModel", "toldIs", "[I", true)
  | 23 => ("OneJohnModel", "toldMany", "I", false)
  | 24 => ("OneJohnModel", "recordOf", "[I", true)
  | 25 => ("OneJohnModel", "recordIs", "[I", true)
  | 26 => ("OneJohnModel", "recordMany", "I", false)
  | 27 => ("OneJohnModel", "best", "[I", true)
  | _ => ("OneJohnModel", "twos", "[I", true)
def tyX9 : Nat → FieldType := fun k => match k with
  | 0 => .int
  | 1 => .long
  | 2 => .array .int
  | 3 => .int
  | 4 => .int
  | 5 => .int
  | 6 => .int
  | 7 => .int
  | 8 => .int
  | 9 => .array .int
  | 10 => .array .int
  | 11 => .array .int
  | 12 => .array .int
  | 13 => .array .int
  | 14 => .boolean
  | 15 => .array .int
  | 16 => .array .int
  | 17 => .array .int
  | 18 => .array .boolean
  | 19 => .array .int
  | 20 => .int
  | 21 => .array .int
  | 22 => .array .int
  | 23 => .int
  | 24 => .array .int
  | 25 => .array .int
  | 26 => .int
  | 27 => .array .int
  | _ => .array .int
abbrev wsX90 : List Cond := u_ws RX9 TX9 29
theorem nmX9 : ∀ a, a < 29 → ∀ b, b < 29 → a ≠ b → (TX9 a).2.1 ≠ (TX9 b).2.1 := by decide +kernel
theorem tyX9_ok : ∀ k, k < 29 → parseFieldDescriptor (TX9 k).2.2.1 = some (tyX9 k) := by decide +kernel
abbrev cX9_init : ByteArray := prog_11_method_1_code
def yX9_init : MethodName := ⟨RX9, "<init>", "()V"⟩
abbrev cX9_in : ByteArray := prog_11_method_3_code
def yX9_in : MethodName := ⟨RX9, "in", "(III)Z"⟩
abbrev cX9_ones : ByteArray := prog_11_method_4_code
def yX9_ones : MethodName := ⟨RX9, "ones", "(I)I"⟩
abbrev cX9_type : ByteArray := prog_11_method_5_code
def yX9_type : MethodName := ⟨RX9, "type", "(I)I"⟩
abbrev cX9_clear : ByteArray := prog_11_method_6_code
def yX9_clear : MethodName := ⟨RX9, "clear", "()I"⟩
abbrev cX9_letterAt : ByteArray := prog_11_method_7_code
def yX9_letterAt : MethodName := ⟨RX9, "letterAt", "(I)I"⟩
abbrev cX9_advances : ByteArray := prog_11_method_8_code
def yX9_advances : MethodName := ⟨RX9, "advances", "()V"⟩
abbrev cX9_isWell : ByteArray := prog_11_method_9_code
def yX9_isWell : MethodName := ⟨RX9, "isWell", "()Z"⟩
abbrev cX9_takes : ByteArray := prog_11_method_10_code
def yX9_takes : MethodName := ⟨RX9, "takes", "(Z)I"⟩
abbrev cX9_number : ByteArray := prog_11_method_11_code
def yX9_number : MethodName := ⟨RX9, "number", "(II)I"⟩
abbrev cX9_mayBegin : ByteArray := prog_11_method_12_code
def yX9_mayBegin : MethodName := ⟨RX9, "mayBegin", "(I)Z"⟩
abbrev cX9_readsItem : ByteArray := prog_11_method_13_code
def yX9_readsItem : MethodName := ⟨RX9, "readsItem", "(I)V"⟩
abbrev cX9_republic : ByteArray := prog_11_method_14_code
def yX9_republic : MethodName := ⟨RX9, "republic", "()I"⟩
abbrev cX9_settles : ByteArray := prog_11_method_15_code
def yX9_settles : MethodName := ⟨RX9, "settles", "()V"⟩
abbrev cX9_isPerson : ByteArray := prog_11_method_16_code
def yX9_isPerson : MethodName := ⟨RX9, "isPerson", "(I)Z"⟩
abbrev cX9_isName : ByteArray := prog_11_method_17_code
def yX9_isName : MethodName := ⟨RX9, "isName", "(I)Z"⟩
abbrev cX9_peopleOf : ByteArray := prog_11_method_18_code
def yX9_peopleOf : MethodName := ⟨RX9, "peopleOf", "([II)I"⟩
abbrev cX9_isLaw : ByteArray := prog_11_method_19_code
def yX9_isLaw : MethodName := ⟨RX9, "isLaw", "([II)Z"⟩
abbrev cX9_sumOf : ByteArray := prog_11_method_20_code
def yX9_sumOf : MethodName := ⟨RX9, "sumOf", "([III)I"⟩
abbrev cX9_limps : ByteArray := prog_11_method_21_code
def yX9_limps : MethodName := ⟨RX9, "limps", "([II)Z"⟩
abbrev cX9_fame : ByteArray := prog_11_method_22_code
def yX9_fame : MethodName := ⟨RX9, "fame", "([II)I"⟩
abbrev cX9_tax : ByteArray := prog_11_method_23_code
def yX9_tax : MethodName := ⟨RX9, "tax", "([II)I"⟩
abbrev cX9_leadOf : ByteArray := prog_11_method_24_code
def yX9_leadOf : MethodName := ⟨RX9, "leadOf", "(II)I"⟩
abbrev cX9_voices : ByteArray := prog_11_method_25_code
def yX9_voices : MethodName := ⟨RX9, "voices", "([IIII)I"⟩
abbrev cX9_passes : ByteArray := prog_11_method_26_code
def yX9_passes : MethodName := ⟨RX9, "passes", "([III)Z"⟩
abbrev cX9_everybody : ByteArray := prog_11_method_27_code
def yX9_everybody : MethodName := ⟨RX9, "everybody", "()I"⟩
abbrev cX9_person : ByteArray := prog_11_method_28_code
def yX9_person : MethodName := ⟨RX9, "person", "(II)I"⟩
abbrev cX9_quarrels : ByteArray := prog_11_method_29_code
def yX9_quarrels : MethodName := ⟨RX9, "quarrels", "(I)I"⟩
abbrev cX9_gcd : ByteArray := prog_11_method_30_code
def yX9_gcd : MethodName := ⟨RX9, "gcd", "(II)I"⟩
abbrev cX9_part : ByteArray := prog_11_method_31_code
def yX9_part : MethodName := ⟨RX9, "part", "(III)I"⟩
abbrev cX9_name : ByteArray := prog_11_method_32_code
def yX9_name : MethodName := ⟨RX9, "name", "(II)I"⟩
abbrev cX9_swayOf : ByteArray := prog_11_method_33_code
def yX9_swayOf : MethodName := ⟨RX9, "swayOf", "(I)I"⟩
abbrev cX9_bill : ByteArray := prog_11_method_34_code
def yX9_bill : MethodName := ⟨RX9, "bill", "(II)I"⟩
abbrev cX9_limping : ByteArray := prog_11_method_35_code
def yX9_limping : MethodName := ⟨RX9, "limping", "()I"⟩
abbrev cX9_badOnes : ByteArray := prog_11_method_36_code
def yX9_badOnes : MethodName := ⟨RX9, "badOnes", "()I"⟩
abbrev cX9_alone : ByteArray := prog_11_method_37_code
def yX9_alone : MethodName := ⟨RX9, "alone", "()I"⟩
abbrev cX9_restless : ByteArray := prog_11_method_38_code
def yX9_restless : MethodName := ⟨RX9, "restless", "()I"⟩
abbrev cX9_now : ByteArray := prog_11_method_39_code
def yX9_now : MethodName := ⟨RX9, "now", "(I)I"⟩
abbrev cX9_notes : ByteArray := prog_11_method_40_code
def yX9_notes : MethodName := ⟨RX9, "notes", "()V"⟩
abbrev cX9_hurts : ByteArray := prog_11_method_41_code
def yX9_hurts : MethodName := ⟨RX9, "hurts", "(II)I"⟩
abbrev cX9_deeds : ByteArray := prog_11_method_42_code
def yX9_deeds : MethodName := ⟨RX9, "deeds", "(I)I"⟩
abbrev cX9_earns : ByteArray := prog_11_method_43_code
def yX9_earns : MethodName := ⟨RX9, "earns", "(II)I"⟩
abbrev cX9_names : ByteArray := prog_11_method_44_code
def yX9_names : MethodName := ⟨RX9, "names", "(II)I"⟩
abbrev cX9_laws : ByteArray := prog_11_method_45_code
def yX9_laws : MethodName := ⟨RX9, "laws", "(I)I"⟩
abbrev cX9_year : ByteArray := prog_11_method_46_code
def yX9_year : MethodName := ⟨RX9, "year", "()I"⟩
abbrev cX9_undo : ByteArray := prog_11_method_47_code
def yX9_undo : MethodName := ⟨RX9, "undo", "()I"⟩
abbrev cX9_asNow : ByteArray := prog_11_method_48_code
def yX9_asNow : MethodName := ⟨RX9, "asNow", "()V"⟩
abbrev cX9_renamedBy : ByteArray := prog_11_method_49_code
def yX9_renamedBy : MethodName := ⟨RX9, "renamedBy", "(I)I"⟩
abbrev cX9_apart : ByteArray := prog_11_method_50_code
def yX9_apart : MethodName := ⟨RX9, "apart", "(I)I"⟩
abbrev cX9_taxBy : ByteArray := prog_11_method_51_code
def yX9_taxBy : MethodName := ⟨RX9, "taxBy", "(II)I"⟩
abbrev cX9_cheapestOf : ByteArray := prog_11_method_52_code
def yX9_cheapestOf : MethodName := ⟨RX9, "cheapestOf", "(I)I"⟩
abbrev cX9_cheapest : ByteArray := prog_11_method_53_code
def yX9_cheapest : MethodName := ⟨RX9, "cheapest", "(I)I"⟩
abbrev cX9_tells : ByteArray := prog_11_method_54_code
def yX9_tells : MethodName := ⟨RX9, "tells", "(II)I"⟩
abbrev cX9_record : ByteArray := prog_11_method_55_code
def yX9_record : MethodName := ⟨RX9, "record", "(II)I"⟩
abbrev cX9_forget : ByteArray := prog_11_method_56_code
def yX9_forget : MethodName := ⟨RX9, "forget", "()I"⟩
abbrev cX9_isAsTold : ByteArray := prog_11_method_57_code
def yX9_isAsTold : MethodName := ⟨RX9, "isAsTold", "()Z"⟩
abbrev cX9_isAsRecorded : ByteArray := prog_11_method_58_code
def yX9_isAsRecorded : MethodName := ⟨RX9, "isAsRecorded", "()Z"⟩
abbrev cX9_who : ByteArray := prog_11_method_59_code
def yX9_who : MethodName := ⟨RX9, "who", "()I"⟩
abbrev cX9_which : ByteArray := prog_11_method_60_code
def yX9_which : MethodName := ⟨RX9, "which", "(I)I"⟩
abbrev cX9_mayMarry : ByteArray := prog_11_method_61_code
def yX9_mayMarry : MethodName := ⟨RX9, "mayMarry", "(II)Z"⟩
abbrev cX9_pairs : ByteArray := prog_11_method_62_code
def yX9_pairs : MethodName := ⟨RX9, "pairs", "()V"⟩
abbrev cX9_married : ByteArray := prog_11_method_63_code
def yX9_married : MethodName := ⟨RX9, "married", "(I)I"⟩
abbrev cX9_power : ByteArray := prog_11_method_64_code
def yX9_power : MethodName := ⟨RX9, "power", "(II)I"⟩
abbrev cX9_odds : ByteArray := prog_11_method_65_code
def yX9_odds : MethodName := ⟨RX9, "odds", "(IIII)I"⟩
abbrev cX9_rate : ByteArray := prog_11_method_66_code
def yX9_rate : MethodName := ⟨RX9, "rate", "(II)I"⟩
abbrev cX9_keep : ByteArray := prog_11_method_67_code
def yX9_keep : MethodName := ⟨RX9, "keep", "(I)I"⟩
abbrev cX9_back : ByteArray := prog_11_method_68_code
def yX9_back : MethodName := ⟨RX9, "back", "(I)I"⟩
abbrev cX9_count : ByteArray := prog_11_method_69_code
def yX9_count : MethodName := ⟨RX9, "count", "(I)I"⟩
abbrev cX9_trace : ByteArray := prog_11_method_70_code
def yX9_trace : MethodName := ⟨RX9, "trace", "()J"⟩
def RJ6 : String := "java/lang/Integer"
def TJ6 : u_T := fun k => match k with
  | _ => ("", "", "", false)
def tyJ6 : Nat → FieldType := fun k => match k with
  | _ => .int
abbrev wsJ60 : List Cond := u_ws RJ6 TJ6 0
theorem nmJ6 : ∀ a, a < 0 → ∀ b, b < 0 → a ≠ b → (TJ6 a).2.1 ≠ (TJ6 b).2.1 := by decide +kernel
theorem tyJ6_ok : ∀ k, k < 0 → parseFieldDescriptor (TJ6 k).2.2.1 = some (tyJ6 k) := by decide +kernel
abbrev cJ6_bitCount_0f7a4 : ByteArray := prog_12_method_49_code
def yJ6_bitCount_0f7a4 : MethodName := ⟨RJ6, "bitCount", "(I)I"⟩
def RJ9 : String := "java/lang/Math"
def TJ9 : u_T := fun k => match k with
  | _ => ("", "", "", false)
def tyJ9 : Nat → FieldType := fun k => match k with
  | _ => .int
abbrev wsJ90 : List Cond := u_ws RJ9 TJ9 0
theorem nmJ9 : ∀ a, a < 0 → ∀ b, b < 0 → a ≠ b → (TJ9 a).2.1 ≠ (TJ9 b).2.1 := by decide +kernel
theorem tyJ9_ok : ∀ k, k < 0 → parseFieldDescriptor (TJ9 k).2.2.1 = some (tyJ9 k) := by decide +kernel
abbrev cJ9_max_7cf53 : ByteArray := prog_13_method_65_code
def yJ9_max_7cf53 : MethodName := ⟨RJ9, "max", "(II)I"⟩
abbrev cJ9_min_7cf53 : ByteArray := prog_13_method_69_code
def yJ9_min_7cf53 : MethodName := ⟨RJ9, "min", "(II)I"⟩
def RJ10 : String := "java/lang/System"
def TJ10 : u_T := fun k => match k with
  | _ => ("", "", "", false)
def tyJ10 : Nat → FieldType := fun k => match k with
  | _ => .int
abbrev wsJ100 : List Cond := u_ws RJ10 TJ10 0
theorem nmJ10 : ∀ a, a < 0 → ∀ b, b < 0 → a ≠ b → (TJ10 a).2.1 ≠ (TJ10 b).2.1 := by decide +kernel
theorem tyJ10_ok : ∀ k, k < 0 → parseFieldDescriptor (TJ10 k).2.2.1 = some (tyJ10 k) := by decide +kernel
def RL : String := "OneJohnLaw"
abbrev cL_law : ByteArray := code
def yL_law : MethodName := ⟨RL, "law", "([I)Z"⟩
def wsL_law_r1 : List Cond := [Cond.classLink RL 7 RX8, Cond.instantiable RX8 11, Cond.initialized RX8, Cond.classLink RL 10 RX9, Cond.instantiable RX9 29, Cond.initialized RX9, Cond.methodLink RL 9 yX8_init, Cond.instanceMethod yX8_init, Cond.code yX8_init cX8_init 2 none, Cond.methodLink RX8 1 objectInit, Cond.instanceMethod objectInit, Cond.code objectInit ⟨#[0xb1]⟩ 1 none, Cond.classLink RX8 7 RX6, Cond.instantiable RX6 2, Cond.initialized RX6, Cond.fieldLink RX8 10 "OneJohn" "text" "LOneJohn$Text;", Cond.classLink RX8 16 RX4, Cond.instantiable RX4 6, Cond.initialized RX4, Cond.fieldLink RX8 19 "OneJohn" "reader" "LOneJohn$Reader;", Cond.classLink RX8 23 RX1, Cond.instantiable RX1 6, Cond.initialized RX1, Cond.fieldLink RX8 26 "OneJohn" "land" "LOneJohn$Land;"]
def wsL_law_r2 : List Cond := [Cond.classLink RX8 30 RX3, Cond.instantiable RX3 3, Cond.initialized RX3, Cond.fieldLink RX8 33 "OneJohn" "past" "LOneJohn$Past;", Cond.classLink RX8 37 RX0, Cond.instantiable RX0 3, Cond.initialized RX0, Cond.fieldLink RX8 40 "OneJohn" "told" "LOneJohn$Claims;", Cond.fieldLink RX8 44 "OneJohn" "records" "LOneJohn$Claims;", Cond.classLink RX8 47 RX5, Cond.instantiable RX5 3, Cond.initialized RX5, Cond.fieldLink RX8 50 "OneJohn" "renaming" "LOneJohn$Renaming;", Cond.classLink RX8 54 RX7, Cond.instantiable RX7 3, Cond.initialized RX7, Cond.fieldLink RX8 57 "OneJohn" "wedding" "LOneJohn$Wedding;", Cond.classLink RX8 61 RX2, Cond.fieldLink RX8 63 "OneJohn" "images" "[LOneJohn$Now;", Cond.arrayClass .boolean, Cond.fieldLink RX8 67 "OneJohn" "kept" "[Z", Cond.fieldLink RX8 71 "OneJohn" "trace" "J", Cond.instantiable RX2 7, Cond.initialized RX2]
def wsL_law_r3 : List Cond := [Cond.instanceMethod yX6_init, Cond.code yX6_init cX6_init 1 none, Cond.methodLink RX6 3 objectInit, Cond.arrayClass .int, Cond.fieldLink RX6 9 "OneJohn$Text" "letters" "[I", Cond.fieldLink RX6 15 "OneJohn$Text" "length" "I", Cond.instanceMethod yX4_init, Cond.code yX4_init cX4_init 1 none, Cond.methodLink RX4 3 objectInit, Cond.classLink RX4 9 RX1, Cond.fieldLink RX4 12 "OneJohn$Reader" "draft" "LOneJohn$Land;", Cond.fieldLink RX4 18 "OneJohn$Reader" "place" "I", Cond.fieldLink RX4 22 "OneJohn$Reader" "start" "I", Cond.fieldLink RX4 25 "OneJohn$Reader" "token" "I", Cond.fieldLink RX4 28 "OneJohn$Reader" "value" "I", Cond.fieldLink RX4 31 "OneJohn$Reader" "lawsTold" "Z", Cond.instanceMethod yX1_init, Cond.code yX1_init cX1_init 1 none, Cond.methodLink RX1 3 objectInit, Cond.fieldLink RX1 9 "OneJohn$Land" "favours" "[I", Cond.fieldLink RX1 15 "OneJohn$Land" "foes" "[I", Cond.fieldLink RX1 18 "OneJohn$Land" "due" "[I", Cond.classLink RX1 21 RX2, Cond.fieldLink RX1 24 "OneJohn$Land" "now" "LOneJohn$Now;"]
def wsL_law_r4 : List Cond := [Cond.fieldLink RX1 28 "OneJohn$Land" "nameCount" "I", Cond.fieldLink RX1 32 "OneJohn$Land" "people" "I", Cond.instanceMethod yX2_init, Cond.code yX2_init cX2_init 1 none, Cond.methodLink RX2 3 objectInit, Cond.fieldLink RX2 9 "OneJohn$Now" "names" "[I", Cond.fieldLink RX2 15 "OneJohn$Now" "wealth" "[I", Cond.fieldLink RX2 18 "OneJohn$Now" "deeds" "[I", Cond.fieldLink RX2 21 "OneJohn$Now" "hurt" "I", Cond.fieldLink RX2 25 "OneJohn$Now" "laws" "I", Cond.fieldLink RX2 28 "OneJohn$Now" "chest" "I", Cond.fieldLink RX2 31 "OneJohn$Now" "years" "I", Cond.methodLink RX8 32 yX3_init, Cond.instanceMethod yX3_init, Cond.code yX3_init cX3_init 2 none, Cond.methodLink RX3 3 objectInit, Cond.classLink RX3 9 RX2, Cond.fieldLink RX3 11 "OneJohn$Past" "rows" "[LOneJohn$Now;", Cond.fieldLink RX3 17 "OneJohn$Past" "next" "I", Cond.fieldLink RX3 21 "OneJohn$Past" "size" "I", Cond.instanceMethod yX0_init, Cond.code yX0_init cX0_init 1 none, Cond.methodLink RX0 3 objectInit, Cond.fieldLink RX0 9 "OneJohn$Claims" "subjects" "[I"]
def wsL_law_r5 : List Cond := [Cond.fieldLink RX0 15 "OneJohn$Claims" "answers" "[I", Cond.fieldLink RX0 18 "OneJohn$Claims" "size" "I", Cond.instanceMethod yX5_init, Cond.code yX5_init cX5_init 1 none, Cond.methodLink RX5 3 objectInit, Cond.fieldLink RX5 9 "OneJohn$Renaming" "way" "[I", Cond.fieldLink RX5 15 "OneJohn$Renaming" "best" "[I", Cond.fieldLink RX5 18 "OneJohn$Renaming" "fewest" "I", Cond.instanceMethod yX7_init, Cond.code yX7_init cX7_init 1 none, Cond.methodLink RX7 3 objectInit, Cond.fieldLink RX7 9 "OneJohn$Wedding" "way" "[I", Cond.fieldLink RX7 15 "OneJohn$Wedding" "best" "[I", Cond.fieldLink RX7 18 "OneJohn$Wedding" "most" "I", Cond.methodLink RL 12 yX9_init, Cond.instanceMethod yX9_init, Cond.code yX9_init cX9_init 1 none, Cond.methodLink RX9 1 objectInit, Cond.fieldLink RX9 7 "OneJohnModel" "text" "[I", Cond.fieldLink RX9 13 "OneJohnModel" "many" "[I", Cond.fieldLink RX9 16 "OneJohnModel" "name" "[I", Cond.fieldLink RX9 19 "OneJohnModel" "wealth" "[I", Cond.fieldLink RX9 22 "OneJohnModel" "bills" "[I", Cond.fieldLink RX9 25 "OneJohnModel" "quarrel" "[I"]
def wsL_law_r6 : List Cond := [Cond.fieldLink RX9 28 "OneJohnModel" "s" "[I", Cond.fieldLink RX9 31 "OneJohnModel" "w" "[I", Cond.fieldLink RX9 34 "OneJohnModel" "kept" "[I", Cond.fieldLink RX9 37 "OneJohnModel" "isKept" "[Z", Cond.fieldLink RX9 41 "OneJohnModel" "undos" "[I", Cond.fieldLink RX9 44 "OneJohnModel" "toldOf" "[I", Cond.fieldLink RX9 47 "OneJohnModel" "toldIs" "[I", Cond.fieldLink RX9 50 "OneJohnModel" "recordOf" "[I", Cond.fieldLink RX9 53 "OneJohnModel" "recordIs" "[I", Cond.fieldLink RX9 56 "OneJohnModel" "best" "[I", Cond.fieldLink RX9 59 "OneJohnModel" "twos" "[I", Cond.methodLink RL 13 yX8_type, Cond.instanceMethod yX8_type, Cond.selects RX8 yX8_type yX8_type, Cond.code yX8_type cX8_type 2 (some .int), Cond.fieldLink RX8 80 "OneJohn$Text" "length" "I", Cond.fieldLink RX8 84 "OneJohn$Text" "letters" "[I", Cond.methodLink RX8 76 yX8_within, Cond.static yX8_within, Cond.code yX8_within cX8_within 3 (some .boolean), Cond.methodLink RL 17 yX9_type, Cond.instanceMethod yX9_type, Cond.selects RX9 yX9_type yX9_type, Cond.code yX9_type cX9_type 2 (some .int)]
def wsL_law_r7 : List Cond := [Cond.fieldLink RX9 62 "OneJohnModel" "thrown" "I", Cond.fieldLink RX9 70 "OneJohnModel" "typed" "I", Cond.methodLink RX9 66 yX9_in, Cond.static yX9_in, Cond.code yX9_in cX9_in 3 (some .boolean), Cond.methodLink RL 18 yX8_clear, Cond.instanceMethod yX8_clear, Cond.selects RX8 yX8_clear yX8_clear, Cond.code yX8_clear cX8_clear 2 (some .int), Cond.methodLink RL 22 yX9_clear, Cond.instanceMethod yX9_clear, Cond.selects RX9 yX9_clear yX9_clear, Cond.code yX9_clear cX9_clear 2 (some .int), Cond.methodLink RL 23 yX8_republic, Cond.instanceMethod yX8_republic, Cond.selects RX8 yX8_republic yX8_republic, Cond.code yX8_republic cX8_republic 3 (some .int), Cond.fieldLink RX8 92 "OneJohn$Reader" "draft" "LOneJohn$Land;", Cond.fieldLink RX8 99 "OneJohn$Past" "size" "I", Cond.fieldLink RX8 102 "OneJohn$Claims" "size" "I", Cond.methodLink RX8 88 yX4_read, Cond.instanceMethod yX4_read, Cond.selects RX4 yX4_read yX4_read, Cond.code yX4_read cX4_read 3 (some .int)]
def wsL_law_r8 : List Cond := [Cond.methodLink RX4 35 yX1_empty, Cond.instanceMethod yX1_empty, Cond.selects RX1 yX1_empty yX1_empty, Cond.code yX1_empty cX1_empty 1 none, Cond.fieldLink RX1 35 "OneJohn$Now" "hurt" "I", Cond.fieldLink RX1 38 "OneJohn$Now" "laws" "I", Cond.fieldLink RX1 41 "OneJohn$Now" "chest" "I", Cond.fieldLink RX1 44 "OneJohn$Now" "years" "I", Cond.methodLink RX4 38 yX4_nextToken, Cond.instanceMethod yX4_nextToken, Cond.selects RX4 yX4_nextToken yX4_nextToken, Cond.code yX4_nextToken cX4_nextToken 2 none, Cond.fieldLink RX4 93 "OneJohn$Text" "length" "I", Cond.fieldLink RX4 98 "OneJohn$Text" "letters" "[I", Cond.methodLink RX4 101 yX4_isDigit, Cond.static yX4_isDigit, Cond.code yX4_isDigit cX4_isDigit 1 (some .boolean), Cond.methodLink RX4 105 yX4_takeNumber, Cond.instanceMethod yX4_takeNumber, Cond.selects RX4 yX4_takeNumber yX4_takeNumber, Cond.code yX4_takeNumber cX4_takeNumber 4 none, Cond.methodLink RX4 42 yX4_readItem, Cond.instanceMethod yX4_readItem, Cond.selects RX4 yX4_readItem yX4_readItem]
def wsL_law_r9 : List Cond := [Cond.code yX4_readItem cX4_readItem 3 (some .boolean), Cond.fieldLink RX4 53 "OneJohn$Land" "people" "I", Cond.methodLink RX4 46 yX4_readNames, Cond.instanceMethod yX4_readNames, Cond.selects RX4 yX4_readNames yX4_readNames, Cond.code yX4_readNames cX4_readNames 2 (some .boolean), Cond.fieldLink RX4 69 "OneJohn$Land" "nameCount" "I", Cond.methodLink RX4 65 yX4_readNumber, Cond.instanceMethod yX4_readNumber, Cond.selects RX4 yX4_readNumber yX4_readNumber, Cond.code yX4_readNumber cX4_readNumber 4 (some .boolean), Cond.methodLink RX4 50 yX4_isEnded, Cond.instanceMethod yX4_isEnded, Cond.selects RX4 yX4_isEnded yX4_isEnded, Cond.code yX4_isEnded cX4_isEnded 2 (some .boolean), Cond.methodLink RX4 56 yX4_readPerson, Cond.instanceMethod yX4_readPerson, Cond.selects RX4 yX4_readPerson yX4_readPerson, Cond.code yX4_readPerson cX4_readPerson 4 (some .boolean), Cond.methodLink RX4 72 yX1_addPerson, Cond.instanceMethod yX1_addPerson, Cond.selects RX1 yX1_addPerson yX1_addPerson, Cond.code yX1_addPerson cX1_addPerson 4 none, Cond.fieldLink RX1 57 "OneJohn$Now" "names" "[I"]
def wsL_law_r10 : List Cond := [Cond.fieldLink RX1 60 "OneJohn$Now" "wealth" "[I", Cond.fieldLink RX1 63 "OneJohn$Now" "deeds" "[I", Cond.methodLink RX4 59 yX4_readQuarrel, Cond.instanceMethod yX4_readQuarrel, Cond.selects RX4 yX4_readQuarrel yX4_readQuarrel, Cond.code yX4_readQuarrel cX4_readQuarrel 3 (some .boolean), Cond.fieldLink RX4 76 "OneJohn$Land" "foes" "[I", Cond.methodLink RX4 62 yX4_readLaws, Cond.instanceMethod yX4_readLaws, Cond.selects RX4 yX4_readLaws yX4_readLaws, Cond.code yX4_readLaws cX4_readLaws 2 (some .boolean), Cond.fieldLink RX4 80 "OneJohn$Land" "now" "LOneJohn$Now;", Cond.fieldLink RX4 84 "OneJohn$Now" "laws" "I", Cond.methodLink RX8 95 yX1_take, Cond.instanceMethod yX1_take, Cond.selects RX1 yX1_take yX1_take, Cond.code yX1_take cX1_take 2 none, Cond.methodLink RX1 47 arraycopyName, Cond.native arraycopyName, Cond.static arraycopyName, Cond.initialized "java/lang/System", Cond.methodLink RX1 53 yX2_take, Cond.instanceMethod yX2_take, Cond.selects RX2 yX2_take yX2_take]
def wsL_law_r11 : List Cond := [Cond.code yX2_take cX2_take 2 none, Cond.methodLink RX2 34 arraycopyName, Cond.methodLink RL 26 yX9_republic, Cond.instanceMethod yX9_republic, Cond.selects RX9 yX9_republic yX9_republic, Cond.code yX9_republic cX9_republic 3 (some .int), Cond.fieldLink RX9 89 "OneJohnModel" "fault" "I", Cond.fieldLink RX9 73 "OneJohnModel" "next" "I", Cond.fieldLink RX9 103 "OneJohnModel" "isLawTold" "Z", Cond.fieldLink RX9 83 "OneJohnModel" "token" "I", Cond.methodLink RX9 96 yX9_advances, Cond.instanceMethod yX9_advances, Cond.selects RX9 yX9_advances yX9_advances, Cond.code yX9_advances cX9_advances 2 none, Cond.fieldLink RX9 80 "OneJohnModel" "place" "I", Cond.fieldLink RX9 86 "OneJohnModel" "value" "I", Cond.methodLink RX9 76 yX9_letterAt, Cond.instanceMethod yX9_letterAt, Cond.selects RX9 yX9_letterAt yX9_letterAt, Cond.code yX9_letterAt cX9_letterAt 2 (some .int), Cond.methodLink RX9 92 yX9_isWell, Cond.instanceMethod yX9_isWell, Cond.selects RX9 yX9_isWell yX9_isWell, Cond.code yX9_isWell cX9_isWell 1 (some .boolean)]
def wsL_law_r12 : List Cond := [Cond.methodLink RX9 111 yX9_mayBegin, Cond.instanceMethod yX9_mayBegin, Cond.selects RX9 yX9_mayBegin yX9_mayBegin, Cond.code yX9_mayBegin cX9_mayBegin 2 (some .boolean), Cond.methodLink RX9 99 yX9_takes, Cond.instanceMethod yX9_takes, Cond.selects RX9 yX9_takes yX9_takes, Cond.code yX9_takes cX9_takes 3 (some .int), Cond.methodLink RX9 115 yX9_readsItem, Cond.instanceMethod yX9_readsItem, Cond.selects RX9 yX9_readsItem yX9_readsItem, Cond.code yX9_readsItem cX9_readsItem 4 none, Cond.methodLink RX9 107 yX9_number, Cond.instanceMethod yX9_number, Cond.selects RX9 yX9_number yX9_number, Cond.code yX9_number cX9_number 3 (some .int), Cond.methodLink RX9 119 yX9_settles, Cond.instanceMethod yX9_settles, Cond.selects RX9 yX9_settles yX9_settles, Cond.code yX9_settles cX9_settles 2 none, Cond.fieldLink RX9 122 "OneJohnModel" "toldMany" "I", Cond.fieldLink RX9 125 "OneJohnModel" "recordMany" "I", Cond.fieldLink RX9 128 "OneJohnModel" "undoMany" "I", Cond.methodLink RL 27 yX8_person]
def wsL_law_r13 : List Cond := [Cond.instanceMethod yX8_person, Cond.selects RX8 yX8_person yX8_person, Cond.code yX8_person cX8_person 3 (some .int), Cond.fieldLink RX8 107 "OneJohn$Land" "now" "LOneJohn$Now;", Cond.fieldLink RX8 111 "OneJohn$Now" "names" "[I", Cond.fieldLink RX8 114 "OneJohn$Now" "wealth" "[I", Cond.fieldLink RX8 117 "OneJohn$Land" "favours" "[I", Cond.fieldLink RX8 120 "OneJohn$Now" "hurt" "I", Cond.fieldLink RX8 131 "OneJohn$Now" "deeds" "[I", Cond.methodLink RX8 103 yX1_hasPerson, Cond.instanceMethod yX1_hasPerson, Cond.selects RX1 yX1_hasPerson yX1_hasPerson, Cond.code yX1_hasPerson cX1_hasPerson 2 (some .boolean), Cond.methodLink RX8 123 yX8_bit, Cond.static yX8_bit, Cond.code yX8_bit cX8_bit 2 (some .int), Cond.methodLink RX8 127 yX1_limping, Cond.instanceMethod yX1_limping, Cond.selects RX1 yX1_limping yX1_limping, Cond.code yX1_limping cX1_limping 1 (some .int), Cond.methodLink RX1 74 yX1_limpingIf, Cond.instanceMethod yX1_limpingIf, Cond.selects RX1 yX1_limpingIf yX1_limpingIf, Cond.code yX1_limpingIf cX1_limpingIf 6 (some .int)]
def wsL_law_r14 : List Cond := [Cond.methodLink RX1 77 yX1_bearers, Cond.instanceMethod yX1_bearers, Cond.selects RX1 yX1_bearers yX1_bearers, Cond.code yX1_bearers cX1_bearers 4 (some .int), Cond.methodLink RX8 134 yX1_fame, Cond.instanceMethod yX1_fame, Cond.selects RX1 yX1_fame yX1_fame, Cond.code yX1_fame cX1_fame 4 (some .int), Cond.methodLink RX8 138 yX1_tax, Cond.instanceMethod yX1_tax, Cond.selects RX1 yX1_tax yX1_tax, Cond.code yX1_tax cX1_tax 2 (some .int), Cond.methodLink RX1 81 yX1_taxIfNamed, Cond.instanceMethod yX1_taxIfNamed, Cond.selects RX1 yX1_taxIfNamed yX1_taxIfNamed, Cond.code yX1_taxIfNamed cX1_taxIfNamed 5 (some .int), Cond.methodLink RX1 89 Lib.Math.max.name, Cond.static Lib.Math.max.name, Cond.initialized "java/lang/Math", Cond.code Lib.Math.max.name Lib.Math.max.code 2 (some .int), Cond.methodLink RX1 84 yJ6_bitCount_0f7a4, Cond.static yJ6_bitCount_0f7a4, Cond.initialized RJ6, Cond.code yJ6_bitCount_0f7a4 cJ6_bitCount_0f7a4 1 (some .int)]
def wsL_law_r15 : List Cond := [Cond.constant RJ6 265 (1431655765), Cond.constant RJ6 266 (858993459), Cond.constant RJ6 267 (252645135), Cond.methodLink RX1 94 yX1_wealthOf, Cond.instanceMethod yX1_wealthOf, Cond.selects RX1 yX1_wealthOf yX1_wealthOf, Cond.code yX1_wealthOf cX1_wealthOf 4 (some .int), Cond.methodLink RL 31 yX9_person, Cond.instanceMethod yX9_person, Cond.selects RX9 yX9_person yX9_person, Cond.code yX9_person cX9_person 3 (some .int), Cond.methodLink RX9 153 yX9_isPerson, Cond.instanceMethod yX9_isPerson, Cond.selects RX9 yX9_isPerson yX9_isPerson, Cond.code yX9_isPerson cX9_isPerson 2 (some .boolean), Cond.methodLink RX9 156 yX9_limps, Cond.instanceMethod yX9_limps, Cond.selects RX9 yX9_limps yX9_limps, Cond.code yX9_limps cX9_limps 4 (some .boolean), Cond.methodLink RX9 131 yX9_isLaw, Cond.static yX9_isLaw, Cond.code yX9_isLaw cX9_isLaw 2 (some .boolean), Cond.methodLink RX9 135 yX9_peopleOf, Cond.instanceMethod yX9_peopleOf]
def wsL_law_r16 : List Cond := [Cond.selects RX9 yX9_peopleOf yX9_peopleOf, Cond.code yX9_peopleOf cX9_peopleOf 5 (some .int), Cond.methodLink RX9 159 yX9_fame, Cond.instanceMethod yX9_fame, Cond.selects RX9 yX9_fame yX9_fame, Cond.code yX9_fame cX9_fame 3 (some .int), Cond.methodLink RX9 139 yX9_sumOf, Cond.instanceMethod yX9_sumOf, Cond.selects RX9 yX9_sumOf yX9_sumOf, Cond.code yX9_sumOf cX9_sumOf 6 (some .int), Cond.methodLink RX9 162 yX9_tax, Cond.instanceMethod yX9_tax, Cond.selects RX9 yX9_tax yX9_tax, Cond.code yX9_tax cX9_tax 4 (some .int), Cond.methodLink RX9 143 yX9_ones, Cond.static yX9_ones, Cond.code yX9_ones cX9_ones 3 (some .int), Cond.methodLink RL 32 yX8_quarrels, Cond.instanceMethod yX8_quarrels, Cond.selects RX8 yX8_quarrels yX8_quarrels, Cond.code yX8_quarrels cX8_quarrels 2 (some .int), Cond.fieldLink RX8 141 "OneJohn$Land" "foes" "[I", Cond.methodLink RL 35 yX9_quarrels, Cond.instanceMethod yX9_quarrels]
def wsL_law_r17 : List Cond := [Cond.selects RX9 yX9_quarrels yX9_quarrels, Cond.code yX9_quarrels cX9_quarrels 2 (some .int), Cond.methodLink RL 36 yX8_name, Cond.instanceMethod yX8_name, Cond.selects RX8 yX8_name yX8_name, Cond.code yX8_name cX8_name 5 (some .int), Cond.methodLink RX8 155 Lib.Math.max.name, Cond.methodLink RX8 144 yX1_hasName, Cond.instanceMethod yX1_hasName, Cond.selects RX1 yX1_hasName yX1_hasName, Cond.code yX1_hasName cX1_hasName 2 (some .boolean), Cond.methodLink RX8 147 yX1_bearers, Cond.methodLink RX8 150 yJ6_bitCount_0f7a4, Cond.methodLink RX8 160 yX1_wealthOf, Cond.methodLink RX8 163 yX8_inLeastTerms, Cond.static yX8_inLeastTerms, Cond.code yX8_inLeastTerms cX8_inLeastTerms 3 (some .int), Cond.methodLink RX8 270 yX8_commonDivisor, Cond.static yX8_commonDivisor, Cond.code yX8_commonDivisor cX8_commonDivisor 6 (some .int), Cond.methodLink RL 39 yX9_name, Cond.instanceMethod yX9_name, Cond.selects RX9 yX9_name yX9_name, Cond.code yX9_name cX9_name 4 (some .int)]
def wsL_law_r18 : List Cond := [Cond.methodLink RX9 168 yX9_isName, Cond.instanceMethod yX9_isName, Cond.selects RX9 yX9_isName yX9_isName, Cond.code yX9_isName cX9_isName 2 (some .boolean), Cond.methodLink RX9 171 yX9_part, Cond.static yX9_part, Cond.code yX9_part cX9_part 4 (some .int), Cond.methodLink RX9 165 yX9_gcd, Cond.static yX9_gcd, Cond.code yX9_gcd cX9_gcd 5 (some .int), Cond.methodLink RL 40 yX8_bill, Cond.instanceMethod yX8_bill, Cond.selects RX8 yX8_bill yX8_bill, Cond.code yX8_bill cX8_bill 4 (some .int), Cond.fieldLink RX8 166 "OneJohn$Now" "laws" "I", Cond.methodLink RX8 169 yX1_yes, Cond.instanceMethod yX1_yes, Cond.selects RX1 yX1_yes yX1_yes, Cond.code yX1_yes cX1_yes 4 (some .int), Cond.methodLink RX1 111 yX1_sayers, Cond.instanceMethod yX1_sayers, Cond.selects RX1 yX1_sayers yX1_sayers, Cond.code yX1_sayers cX1_sayers 5 (some .int), Cond.methodLink RX1 114 yX1_votes]
def wsL_law_r19 : List Cond := [Cond.instanceMethod yX1_votes, Cond.selects RX1 yX1_votes yX1_votes, Cond.code yX1_votes cX1_votes 11 (some .int), Cond.methodLink RX8 173 yX1_no, Cond.instanceMethod yX1_no, Cond.selects RX1 yX1_no yX1_no, Cond.code yX1_no cX1_no 4 (some .int), Cond.methodLink RX8 176 yX1_passes, Cond.instanceMethod yX1_passes, Cond.selects RX1 yX1_passes yX1_passes, Cond.code yX1_passes cX1_passes 4 (some .boolean), Cond.methodLink RX1 118 yX1_yes, Cond.methodLink RX1 122 yX1_no, Cond.methodLink RX8 179 yX1_sway, Cond.instanceMethod yX1_sway, Cond.selects RX1 yX1_sway yX1_sway, Cond.code yX1_sway cX1_sway 5 (some .int), Cond.methodLink RX1 125 yX1_passes, Cond.methodLink RL 43 yX9_bill, Cond.instanceMethod yX9_bill, Cond.selects RX9 yX9_bill yX9_bill, Cond.code yX9_bill cX9_bill 3 (some .int), Cond.methodLink RX9 175 yX9_everybody, Cond.instanceMethod yX9_everybody]
def wsL_law_r20 : List Cond := [Cond.selects RX9 yX9_everybody yX9_everybody, Cond.code yX9_everybody cX9_everybody 1 (some .int), Cond.methodLink RX9 149 yX9_voices, Cond.instanceMethod yX9_voices, Cond.selects RX9 yX9_voices yX9_voices, Cond.code yX9_voices cX9_voices 7 (some .int), Cond.methodLink RX9 146 yX9_leadOf, Cond.instanceMethod yX9_leadOf, Cond.selects RX9 yX9_leadOf yX9_leadOf, Cond.code yX9_leadOf cX9_leadOf 5 (some .int), Cond.methodLink RX9 179 yX9_passes, Cond.instanceMethod yX9_passes, Cond.selects RX9 yX9_passes yX9_passes, Cond.code yX9_passes cX9_passes 4 (some .boolean), Cond.methodLink RX9 183 yX9_swayOf, Cond.instanceMethod yX9_swayOf, Cond.selects RX9 yX9_swayOf yX9_swayOf, Cond.code yX9_swayOf cX9_swayOf 4 (some .int), Cond.methodLink RL 44 yX8_now, Cond.instanceMethod yX8_now, Cond.selects RX8 yX8_now yX8_now, Cond.code yX8_now cX8_now 2 (some .int), Cond.fieldLink RX8 182 "OneJohn$Now" "years" "I", Cond.fieldLink RX8 185 "OneJohn$Now" "chest" "I"]
def wsL_law_r21 : List Cond := [Cond.methodLink RX8 188 yX1_badOnes, Cond.instanceMethod yX1_badOnes, Cond.selects RX1 yX1_badOnes yX1_badOnes, Cond.code yX1_badOnes cX1_badOnes 4 (some .int), Cond.methodLink RX1 107 yX1_quarrel, Cond.instanceMethod yX1_quarrel, Cond.selects RX1 yX1_quarrel yX1_quarrel, Cond.code yX1_quarrel cX1_quarrel 3 (some .boolean), Cond.methodLink RX8 191 yX1_alone, Cond.instanceMethod yX1_alone, Cond.selects RX1 yX1_alone yX1_alone, Cond.code yX1_alone cX1_alone 4 (some .int), Cond.methodLink RX8 194 yX1_restless, Cond.instanceMethod yX1_restless, Cond.selects RX1 yX1_restless yX1_restless, Cond.code yX1_restless cX1_restless 3 (some .int), Cond.methodLink RX1 104 yX1_cheapestName, Cond.instanceMethod yX1_cheapestName, Cond.selects RX1 yX1_cheapestName yX1_cheapestName, Cond.code yX1_cheapestName cX1_cheapestName 4 (some .int), Cond.methodLink RX1 97 yX1_tax, Cond.methodLink RL 47 yX9_now, Cond.instanceMethod yX9_now, Cond.selects RX9 yX9_now yX9_now]
def wsL_law_r22 : List Cond := [Cond.code yX9_now cX9_now 2 (some .int), Cond.methodLink RX9 192 yX9_limping, Cond.instanceMethod yX9_limping, Cond.selects RX9 yX9_limping yX9_limping, Cond.code yX9_limping cX9_limping 3 (some .int), Cond.methodLink RX9 195 yX9_badOnes, Cond.instanceMethod yX9_badOnes, Cond.selects RX9 yX9_badOnes yX9_badOnes, Cond.code yX9_badOnes cX9_badOnes 3 (some .int), Cond.methodLink RX9 198 yX9_alone, Cond.instanceMethod yX9_alone, Cond.selects RX9 yX9_alone yX9_alone, Cond.code yX9_alone cX9_alone 3 (some .int), Cond.methodLink RX9 201 yX9_restless, Cond.instanceMethod yX9_restless, Cond.selects RX9 yX9_restless yX9_restless, Cond.code yX9_restless cX9_restless 3 (some .int), Cond.methodLink RX9 186 yX9_cheapestOf, Cond.instanceMethod yX9_cheapestOf, Cond.selects RX9 yX9_cheapestOf yX9_cheapestOf, Cond.code yX9_cheapestOf cX9_cheapestOf 4 (some .int), Cond.methodLink RX9 189 yX9_taxBy, Cond.instanceMethod yX9_taxBy, Cond.selects RX9 yX9_taxBy yX9_taxBy]
def wsL_law_r23 : List Cond := [Cond.code yX9_taxBy cX9_taxBy 3 (some .int), Cond.methodLink RX9 212 yX9_asNow, Cond.instanceMethod yX9_asNow, Cond.selects RX9 yX9_asNow yX9_asNow, Cond.code yX9_asNow cX9_asNow 2 none, Cond.methodLink RL 48 yX8_hurts, Cond.instanceMethod yX8_hurts, Cond.selects RX8 yX8_hurts yX8_hurts, Cond.code yX8_hurts cX8_hurts 4 (some .int), Cond.methodLink RX8 197 yX3_remember, Cond.instanceMethod yX3_remember, Cond.selects RX3 yX3_remember yX3_remember, Cond.code yX3_remember cX3_remember 2 none, Cond.methodLink RX3 29 Lib.Math.min.name, Cond.static Lib.Math.min.name, Cond.code Lib.Math.min.name Lib.Math.min.code 2 (some .int), Cond.methodLink RX3 25 yX2_take, Cond.methodLink RL 51 yX9_hurts, Cond.instanceMethod yX9_hurts, Cond.selects RX9 yX9_hurts yX9_hurts, Cond.code yX9_hurts cX9_hurts 4 (some .int), Cond.methodLink RX9 204 yX9_notes, Cond.instanceMethod yX9_notes, Cond.selects RX9 yX9_notes yX9_notes]
def wsL_law_r24 : List Cond := [Cond.code yX9_notes cX9_notes 2 none, Cond.methodLink RL 52 yX8_deeds, Cond.instanceMethod yX8_deeds, Cond.selects RX8 yX8_deeds yX8_deeds, Cond.code yX8_deeds cX8_deeds 2 (some .int), Cond.methodLink RL 55 yX9_deeds, Cond.instanceMethod yX9_deeds, Cond.selects RX9 yX9_deeds yX9_deeds, Cond.code yX9_deeds cX9_deeds 2 (some .int), Cond.methodLink RL 56 yX8_earns, Cond.instanceMethod yX8_earns, Cond.selects RX8 yX8_earns yX8_earns, Cond.code yX8_earns cX8_earns 3 (some .int), Cond.methodLink RX8 201 Lib.Math.min.name, Cond.methodLink RL 59 yX9_earns, Cond.instanceMethod yX9_earns, Cond.selects RX9 yX9_earns yX9_earns, Cond.code yX9_earns cX9_earns 4 (some .int), Cond.methodLink RL 60 yX8_names, Cond.instanceMethod yX8_names, Cond.selects RX8 yX8_names yX8_names, Cond.code yX8_names cX8_names 4 (some .int), Cond.methodLink RL 63 yX9_names, Cond.instanceMethod yX9_names]
def wsL_law_r25 : List Cond := [Cond.selects RX9 yX9_names yX9_names, Cond.code yX9_names cX9_names 4 (some .int), Cond.methodLink RL 64 yX8_laws, Cond.instanceMethod yX8_laws, Cond.selects RX8 yX8_laws yX8_laws, Cond.code yX8_laws cX8_laws 3 (some .int), Cond.methodLink RL 67 yX9_laws, Cond.instanceMethod yX9_laws, Cond.selects RX9 yX9_laws yX9_laws, Cond.code yX9_laws cX9_laws 3 (some .int), Cond.methodLink RL 68 yX8_year, Cond.instanceMethod yX8_year, Cond.selects RX8 yX8_year yX8_year, Cond.code yX8_year cX8_year 1 (some .int), Cond.methodLink RX8 204 yX1_payTax, Cond.instanceMethod yX1_payTax, Cond.selects RX1 yX1_payTax yX1_payTax, Cond.code yX1_payTax cX1_payTax 3 (some .int), Cond.methodLink RX1 100 Lib.Math.min.name, Cond.constant RX1 103 (999999), Cond.methodLink RL 71 yX9_year, Cond.instanceMethod yX9_year, Cond.selects RX9 yX9_year yX9_year, Cond.code yX9_year cX9_year 3 (some .int)]
def wsL_law_r26 : List Cond := [Cond.constant RX9 207 (999999), Cond.methodLink RL 72 yX8_undo, Cond.instanceMethod yX8_undo, Cond.selects RX8 yX8_undo yX8_undo, Cond.code yX8_undo cX8_undo 1 (some .int), Cond.methodLink RX8 207 yX3_recall, Cond.instanceMethod yX3_recall, Cond.selects RX3 yX3_recall yX3_recall, Cond.code yX3_recall cX3_recall 2 none, Cond.methodLink RL 75 yX9_undo, Cond.instanceMethod yX9_undo, Cond.selects RX9 yX9_undo yX9_undo, Cond.code yX9_undo cX9_undo 2 (some .int), Cond.methodLink RL 76 yX8_apart, Cond.instanceMethod yX8_apart, Cond.selects RX8 yX8_apart yX8_apart, Cond.code yX8_apart cX8_apart 2 (some .int), Cond.fieldLink RX8 217 "OneJohn$Renaming" "fewest" "I", Cond.fieldLink RX8 220 "OneJohn$Renaming" "best" "[I", Cond.methodLink RX8 210 yX5_search, Cond.instanceMethod yX5_search, Cond.selects RX5 yX5_search yX5_search, Cond.code yX5_search cX5_search 2 none, Cond.methodLink RX5 22 yX5_nameFrom]
def wsL_law_r27 : List Cond := [Cond.instanceMethod yX5_nameFrom, Cond.selects RX5 yX5_nameFrom yX5_nameFrom, Cond.code yX5_nameFrom cX5_nameFrom 5 none, Cond.fieldLink RX5 26 "OneJohn$Land" "people" "I", Cond.methodLink RX5 31 arraycopyName, Cond.fieldLink RX5 37 "OneJohn$Land" "nameCount" "I", Cond.fieldLink RX5 44 "OneJohn$Land" "now" "LOneJohn$Now;", Cond.fieldLink RX5 48 "OneJohn$Now" "names" "[I", Cond.methodLink RX5 40 yX5_isFree, Cond.instanceMethod yX5_isFree, Cond.selects RX5 yX5_isFree yX5_isFree, Cond.code yX5_isFree cX5_isFree 5 (some .boolean), Cond.methodLink RX5 53 yX1_quarrel, Cond.methodLink RX8 213 yX5_found, Cond.instanceMethod yX5_found, Cond.selects RX5 yX5_found yX5_found, Cond.code yX5_found cX5_found 1 (some .boolean), Cond.methodLink RL 79 yX9_apart, Cond.instanceMethod yX9_apart, Cond.selects RX9 yX9_apart yX9_apart, Cond.code yX9_apart cX9_apart 7 (some .int), Cond.constant RX9 208 (1000000), Cond.methodLink RX9 209 yX9_renamedBy, Cond.instanceMethod yX9_renamedBy]
def wsL_law_r28 : List Cond := [Cond.selects RX9 yX9_renamedBy yX9_renamedBy, Cond.code yX9_renamedBy cX9_renamedBy 6 (some .int), Cond.methodLink RL 80 yX8_cheapest, Cond.instanceMethod yX8_cheapest, Cond.selects RX8 yX8_cheapest yX8_cheapest, Cond.code yX8_cheapest cX8_cheapest 2 (some .int), Cond.methodLink RX8 223 yX1_cheapestName, Cond.methodLink RL 83 yX9_cheapest, Cond.instanceMethod yX9_cheapest, Cond.selects RX9 yX9_cheapest yX9_cheapest, Cond.code yX9_cheapest cX9_cheapest 2 (some .int), Cond.methodLink RL 84 yX8_tells, Cond.instanceMethod yX8_tells, Cond.selects RX8 yX8_tells yX8_tells, Cond.code yX8_tells cX8_tells 3 (some .int), Cond.methodLink RX8 226 yX0_add, Cond.instanceMethod yX0_add, Cond.selects RX0 yX0_add yX0_add, Cond.code yX0_add cX0_add 3 (some .int), Cond.methodLink RL 87 yX9_tells, Cond.instanceMethod yX9_tells, Cond.selects RX9 yX9_tells yX9_tells, Cond.code yX9_tells cX9_tells 3 (some .int), Cond.methodLink RL 88 yX8_record]
def wsL_law_r29 : List Cond := [Cond.instanceMethod yX8_record, Cond.selects RX8 yX8_record yX8_record, Cond.code yX8_record cX8_record 3 (some .int), Cond.methodLink RL 91 yX9_record, Cond.instanceMethod yX9_record, Cond.selects RX9 yX9_record yX9_record, Cond.code yX9_record cX9_record 3 (some .int), Cond.methodLink RL 92 yX8_forget, Cond.instanceMethod yX8_forget, Cond.selects RX8 yX8_forget yX8_forget, Cond.code yX8_forget cX8_forget 2 (some .int), Cond.methodLink RL 95 yX9_forget, Cond.instanceMethod yX9_forget, Cond.selects RX9 yX9_forget yX9_forget, Cond.code yX9_forget cX9_forget 2 (some .int), Cond.methodLink RL 96 yX8_who, Cond.instanceMethod yX8_who, Cond.selects RX8 yX8_who yX8_who, Cond.code yX8_who cX8_who 4 (some .int), Cond.fieldLink RX8 235 "OneJohn$Land" "people" "I", Cond.methodLink RX8 229 yX1_limpingIf, Cond.methodLink RX8 232 yX0_agree, Cond.instanceMethod yX0_agree, Cond.selects RX0 yX0_agree yX0_agree]
def wsL_law_r30 : List Cond := [Cond.code yX0_agree cX0_agree 3 (some .boolean), Cond.methodLink RL 99 yX9_who, Cond.instanceMethod yX9_who, Cond.selects RX9 yX9_who yX9_who, Cond.code yX9_who cX9_who 3 (some .int), Cond.methodLink RX9 215 yX9_isAsTold, Cond.instanceMethod yX9_isAsTold, Cond.selects RX9 yX9_isAsTold yX9_isAsTold, Cond.code yX9_isAsTold cX9_isAsTold 3 (some .boolean), Cond.methodLink RL 100 yX8_which, Cond.instanceMethod yX8_which, Cond.selects RX8 yX8_which yX8_which, Cond.code yX8_which cX8_which 6 (some .int), Cond.methodLink RX8 238 yX8_allIsSo, Cond.instanceMethod yX8_allIsSo, Cond.selects RX8 yX8_allIsSo yX8_allIsSo, Cond.code yX8_allIsSo cX8_allIsSo 2 (some .boolean), Cond.methodLink RX8 241 yX1_passing, Cond.instanceMethod yX1_passing, Cond.selects RX1 yX1_passing yX1_passing, Cond.code yX1_passing cX1_passing 4 (some .int), Cond.methodLink RL 103 yX9_which, Cond.instanceMethod yX9_which, Cond.selects RX9 yX9_which yX9_which]
def wsL_law_r31 : List Cond := [Cond.code yX9_which cX9_which 6 (some .int), Cond.methodLink RX9 218 yX9_isAsRecorded, Cond.instanceMethod yX9_isAsRecorded, Cond.selects RX9 yX9_isAsRecorded yX9_isAsRecorded, Cond.code yX9_isAsRecorded cX9_isAsRecorded 3 (some .boolean), Cond.methodLink RL 104 yX8_married, Cond.instanceMethod yX8_married, Cond.selects RX8 yX8_married yX8_married, Cond.code yX8_married cX8_married 2 (some .int), Cond.fieldLink RX8 245 "OneJohn$Wedding" "most" "I", Cond.fieldLink RX8 248 "OneJohn$Wedding" "best" "[I", Cond.methodLink RX8 244 yX7_search, Cond.instanceMethod yX7_search, Cond.selects RX7 yX7_search yX7_search, Cond.code yX7_search cX7_search 3 none, Cond.methodLink RX7 22 yX7_pairFrom, Cond.instanceMethod yX7_pairFrom, Cond.selects RX7 yX7_pairFrom yX7_pairFrom, Cond.code yX7_pairFrom cX7_pairFrom 5 none, Cond.fieldLink RX7 26 "OneJohn$Land" "people" "I", Cond.methodLink RX7 31 arraycopyName, Cond.methodLink RX7 37 yX7_mayMarry, Cond.static yX7_mayMarry, Cond.code yX7_mayMarry cX7_mayMarry 3 (some .boolean)]
def wsL_law_r32 : List Cond := [Cond.fieldLink RX7 41 "OneJohn$Land" "now" "LOneJohn$Now;", Cond.fieldLink RX7 45 "OneJohn$Now" "names" "[I", Cond.methodLink RX7 50 yX1_quarrel, Cond.methodLink RL 107 yX9_married, Cond.instanceMethod yX9_married, Cond.selects RX9 yX9_married yX9_married, Cond.code yX9_married cX9_married 8 (some .int), Cond.methodLink RX9 225 yX9_pairs, Cond.instanceMethod yX9_pairs, Cond.selects RX9 yX9_pairs yX9_pairs, Cond.code yX9_pairs cX9_pairs 6 none, Cond.methodLink RX9 221 yX9_mayMarry, Cond.instanceMethod yX9_mayMarry, Cond.selects RX9 yX9_mayMarry yX9_mayMarry, Cond.code yX9_mayMarry cX9_mayMarry 3 (some .boolean), Cond.methodLink RL 108 yX8_odds, Cond.instanceMethod yX8_odds, Cond.selects RX8 yX8_odds yX8_odds, Cond.code yX8_odds cX8_odds 8 (some .int), Cond.fieldLink RX8 252 "OneJohn$Land" "nameCount" "I", Cond.methodLink RX8 249 yX8_christenings, Cond.instanceMethod yX8_christenings, Cond.selects RX8 yX8_christenings yX8_christenings, Cond.code yX8_christenings cX8_christenings 5 (some .int)]
def wsL_law_r33 : List Cond := [Cond.methodLink RX8 258 yX8_choices, Cond.static yX8_choices, Cond.code yX8_choices cX8_choices 4 (some .int), Cond.methodLink RX8 255 yX8_power, Cond.static yX8_power, Cond.code yX8_power cX8_power 4 (some .int), Cond.methodLink RL 112 yX9_odds, Cond.instanceMethod yX9_odds, Cond.selects RX9 yX9_odds yX9_odds, Cond.code yX9_odds cX9_odds 7 (some .int), Cond.methodLink RX9 228 yX9_power, Cond.static yX9_power, Cond.code yX9_power cX9_power 4 (some .int), Cond.methodLink RL 113 yX8_rate, Cond.instanceMethod yX8_rate, Cond.selects RX8 yX8_rate yX8_rate, Cond.code yX8_rate cX8_rate 3 (some .int), Cond.constant RX8 261 (-1000000), Cond.methodLink RX8 262 yX8_rateAs, Cond.instanceMethod yX8_rateAs, Cond.selects RX8 yX8_rateAs yX8_rateAs, Cond.code yX8_rateAs cX8_rateAs 3 (some .int), Cond.fieldLink RX8 265 "OneJohn" "MARKS" "[I", Cond.methodLink RL 116 yX9_rate]
def wsL_law_r34 : List Cond := [Cond.instanceMethod yX9_rate, Cond.selects RX9 yX9_rate yX9_rate, Cond.code yX9_rate cX9_rate 6 (some .int), Cond.constant RX9 231 (-1000000), Cond.fieldLink RX9 232 "OneJohnModel" "trace" "J", Cond.constantLong RX9 236 (11), Cond.constantLong RX9 238 (101), Cond.constantLong RX9 240 (1011), Cond.constantLong RX9 242 (10101), Cond.constantLong RX9 244 (100001), Cond.methodLink RL 117 yX8_keep, Cond.instanceMethod yX8_keep, Cond.selects RX8 yX8_keep yX8_keep, Cond.code yX8_keep cX8_keep 2 (some .int), Cond.methodLink RX8 268 yX2_take, Cond.methodLink RL 120 yX9_keep, Cond.instanceMethod yX9_keep, Cond.selects RX9 yX9_keep yX9_keep, Cond.code yX9_keep cX9_keep 3 (some .int), Cond.methodLink RL 121 yX8_back, Cond.instanceMethod yX8_back, Cond.selects RX8 yX8_back yX8_back, Cond.code yX8_back cX8_back 2 (some .int), Cond.methodLink RL 124 yX9_back]
def wsL_law_r35 : List Cond := [Cond.instanceMethod yX9_back, Cond.selects RX9 yX9_back yX9_back, Cond.code yX9_back cX9_back 3 (some .int), Cond.methodLink RL 125 yX8_count, Cond.instanceMethod yX8_count, Cond.selects RX8 yX8_count yX8_count, Cond.code yX8_count cX8_count 2 (some .int), Cond.methodLink RL 128 yX9_count, Cond.instanceMethod yX9_count, Cond.selects RX9 yX9_count yX9_count, Cond.code yX9_count cX9_count 2 (some .int), Cond.methodLink RL 129 yX8_trace, Cond.instanceMethod yX8_trace, Cond.selects RX8 yX8_trace yX8_trace, Cond.code yX8_trace cX8_trace 1 (some .long), Cond.methodLink RL 133 yX9_trace, Cond.instanceMethod yX9_trace, Cond.selects RX9 yX9_trace yX9_trace, Cond.code yX9_trace cX9_trace 1 (some .long)]
def wsL_law : List Cond := (wsL_law_r1 ++ (wsL_law_r2 ++ (wsL_law_r3 ++ (wsL_law_r4 ++ (wsL_law_r5 ++ (wsL_law_r6 ++ (wsL_law_r7 ++ (wsL_law_r8 ++ (wsL_law_r9 ++ (wsL_law_r10 ++ (wsL_law_r11 ++ (wsL_law_r12 ++ (wsL_law_r13 ++ (wsL_law_r14 ++ (wsL_law_r15 ++ (wsL_law_r16 ++ (wsL_law_r17 ++ (wsL_law_r18 ++ (wsL_law_r19 ++ (wsL_law_r20 ++ (wsL_law_r21 ++ (wsL_law_r22 ++ (wsL_law_r23 ++ (wsL_law_r24 ++ (wsL_law_r25 ++ (wsL_law_r26 ++ (wsL_law_r27 ++ (wsL_law_r28 ++ (wsL_law_r29 ++ (wsL_law_r30 ++ (wsL_law_r31 ++ (wsL_law_r32 ++ (wsL_law_r33 ++ (wsL_law_r34 ++ wsL_law_r35)))))))))))))))))))))))))))))))))) ++ wsX80 ++ wsX90 ++ wsX60 ++ wsX40 ++ wsX10 ++ wsX30 ++ wsX00 ++ wsX50 ++ wsX70 ++ wsX20 ++ ([] : List Cond)
abbrev BW : List Cond := wsL_law
theorem bw_wsL_law_r1 : ∀ w ∈ wsL_law_r1, w ∈ BW := fun _ h => (List.mem_append_left _ (List.mem_append_left _ (List.mem_append_left _ (List.mem_append_left _ (List.mem_append_left _ (List.mem_append_left _ (List.mem_append_left _ (List.mem_append_left _ (List.mem_append_left _ (List.mem_append_left _ (List.mem_append_left _ (List.mem_append_left _ h))))))))))))
theorem bw_wsL_law_r2 : ∀ w ∈ wsL_law_r2, w ∈ BW := fun _ h => (List.mem_append_left _ (List.mem_append_left _ (List.mem_append_left _ (List.mem_append_left _ (List.mem_append_left _ (List.mem_append_left _ (List.mem_append_left _ (List.mem_append_left _ (List.mem_append_left _ (List.mem_append_left _ (List.mem_append_left _ (List.mem_append_right _ (List.mem_append_left _ h)))))))))))))
theorem bw_wsL_law_r3 : ∀ w ∈ wsL_law_r3, w ∈ BW := fun _ h => (List.mem_append_left _ (List.mem_append_left _ (List.mem_append_left _ (List.mem_append_left _ (List.mem_append_left _ (List.mem_append_left _ (List.mem_append_left _ (List.mem_append_left _ (List.mem_append_left _ (List.mem_append_left _ (List.mem_append_left _ (List.mem_append_right _ (List.mem_append_right _ (List.mem_append_left _ h))))))))))))))
theorem bw_wsL_law_r4 : ∀ w ∈ wsL_law_r4, w ∈ BW := fun _ h => (List.mem_append_left _ (List.mem_append_left _ (List.mem_append_left _ (List.mem_append_left _ (List.mem_append_left _ (List.mem_append_left _ (List.mem_append_left _ (List.mem_append_left _ (List.mem_append_left _ (List.mem_append_left _ (List.mem_append_left _ (List.mem_append_right _ (List.mem_append_right _ (List.mem_append_right _ (List.mem_append_left _ h)))))))))))))))
theorem bw_wsL_law_r5 : ∀ w ∈ wsL_law_r5, w ∈ BW := fun _ h => (List.mem_append_left _ (List.mem_append_left _ (List.mem_append_left _ (List.mem_append_left _ (List.mem_append_left _ (List.mem_append_left _ (List.mem_append_left _ (List.mem_append_left _ (List.mem_append_left _ (List.mem_append_left _ (List.mem_append_left _ (List.mem_append_right _ (List.mem_append_right _ (List.mem_append_right _ (List.mem_append_right _ (List.mem_append_left _ h))))))))))))))))
theorem bw_wsL_law_r6 : ∀ w ∈ wsL_law_r6, w ∈ BW := fun _ h => (List.mem_append_left _ (List.mem_append_left _ (List.mem_append_left _ (List.mem_append_left _ (List.mem_append_left _ (List.mem_append_left _ (List.mem_append_left _ (List.mem_append_left _ (List.mem_append_left _ (List.mem_append_left _ (List.mem_append_left _ (List.mem_append_right _ (List.mem_append_right _ (List.mem_append_right _ (List.mem_append_right _ (List.mem_append_right _ (List.mem_append_left _ h)))))))))))))))))
theorem bw_wsL_law_r7 : ∀ w ∈ wsL_law_r7, w ∈ BW := fun _ h => (List.mem_append_left _ (List.mem_append_left _ (List.mem_append_left _ (List.mem_append_left _ (List.mem_append_left _ (List.mem_append_left _ (List.mem_append_left _ (List.mem_append_left _ (List.mem_append_left _ (List.mem_append_left _ (List.mem_append_left _ (List.mem_append_right _ (List.mem_append_right _ (List.mem_append_right _ (List.mem_append_right _ (List.mem_append_right _ (List.mem_append_right _ (List.mem_append_left _ h))))))))))))))))))
theorem bw_wsL_law_r8 : ∀ w ∈ wsL_law_r8, w ∈ BW := fun _ h => (List.mem_append_left _ (List.mem_append_left _ (List.mem_append_left _ (List.mem_append_left _ (List.mem_append_left _ (List.mem_append_left _ (List.mem_append_left _ (List.mem_append_left _ (List.mem_append_left _ (List.mem_append_left _ (List.mem_append_left _ (List.mem_append_right _ (List.mem_append_right _ (List.mem_append_right _ (List.mem_append_right _ (List.mem_append_right _ (List.mem_append_right _ (List.mem_append_right _ (List.mem_append_left _ h)))))))))))))))))))
theorem bw_wsL_law_r9 : ∀ w ∈ wsL_law_r9, w ∈ BW := fun _ h => (List.mem_append_left _ (List.mem_append_left _ (List.mem_append_left _ (List.mem_append_left _ (List.mem_append_left _ (List.mem_append_left _ (List.mem_append_left _ (List.mem_append_left _ (List.mem_append_left _ (List.mem_append_left _ (List.mem_append_left _ (List.mem_append_right _ (List.mem_append_right _ (List.mem_append_right _ (List.mem_append_right _ (List.mem_append_right _ (List.mem_append_right _ (List.mem_append_right _ (List.mem_append_right _ (List.mem_append_left _ h))))))))))))))))))))
theorem bw_wsL_law_r10 : ∀ w ∈ wsL_law_r10, w ∈ BW := fun _ h => (List.mem_append_left _ (List.mem_append_left _ (List.mem_append_left _ (List.mem_append_left _ (List.mem_append_left _ (List.mem_append_left _ (List.mem_append_left _ (List.mem_append_left _ (List.mem_append_left _ (List.mem_append_left _ (List.mem_append_left _ (List.mem_append_right _ (List.mem_append_right _ (List.mem_append_right _ (List.mem_append_right _ (List.mem_append_right _ (List.mem_append_right _ (List.mem_append_right _ (List.mem_append_right _ (List.mem_append_right _ (List.mem_append_left _ h)))))))))))))))))))))
theorem bw_wsL_law_r11 : ∀ w ∈ wsL_law_r11, w ∈ BW := fun _ h => (List.mem_append_left _ (List.mem_append_left _ (List.mem_append_left _ (List.mem_append_left _ (List.mem_append_left _ (List.mem_append_left _ (List.mem_append_left _ (List.mem_append_left _ (List.mem_append_left _ (List.mem_append_left _ (List.mem_append_left _ (List.mem_append_right _ (List.mem_append_right _ (List.mem_append_right _ (List.mem_append_right _ (List.mem_append_right _ (List.mem_append_right _ (List.mem_append_right _ (List.mem_append_right _ (List.mem_append_right _ (List.mem_append_right _ (List.mem_append_left _ h))))))))))))))))))))))
theorem bw_wsL_law_r12 : ∀ w ∈ wsL_law_r12, w ∈ BW := fun _ h => (List.mem_append_left _ (List.mem_append_left _ (List.mem_append_left _ (List.mem_append_left _ (List.mem_append_left _ (List.mem_append_left _ (List.mem_append_left _ (List.mem_append_left _ (List.mem_append_left _ (List.mem_append_left _ (List.mem_append_left _ (List.mem_append_right _ (List.mem_append_right _ (List.mem_append_right _ (List.mem_append_right _ (List.mem_append_right _ (List.mem_append_right _ (List.mem_append_right _ (List.mem_append_right _ (List.mem_append_right _ (List.mem_append_right _ (List.mem_append_right _ (List.mem_append_left _ h)))))))))))))))))))))))
theorem bw_wsL_law_r13 : ∀ w ∈ wsL_law_r13, w ∈ BW := fun _ h => (List.mem_append_left _ (List.mem_append_left _ (List.mem_append_left _ (List.mem_append_left _ (List.mem_append_left _ (List.mem_append_left _ (List.mem_append_left _ (List.mem_append_left _ (List.mem_append_left _ (List.mem_append_left _ (List.mem_append_left _ (List.mem_append_right _ (List.mem_append_right _ (List.mem_append_right _ (List.mem_append_right _ (List.mem_append_right _ (List.mem_append_right _ (List.mem_append_right _ (List.mem_append_right _ (List.mem_append_right _ (List.mem_append_right _ (List.mem_append_right _ (List.mem_append_right _ (List.mem_append_left _ h))))))))))))))))))))))))
theorem bw_wsL_law_r14 : ∀ w ∈ wsL_law_r14, w ∈ BW := fun _ h => (List.mem_append_left _ (List.mem_append_left _ (List.mem_append_left _ (List.mem_append_left _ (List.mem_append_left _ (List.mem_append_left _ (List.mem_append_left _ (List.mem_append_left _ (List.mem_append_left _ (List.mem_append_left _ (List.mem_append_left _ (List.mem_append_right _ (List.mem_append_right _ (List.mem_append_right _ (List.mem_append_right _ (List.mem_append_right _ (List.mem_append_right _ (List.mem_append_right _ (List.mem_append_right _ (List.mem_append_right _ (List.mem_append_right _ (List.mem_append_right _ (List.mem_append_right _ (List.mem_append_right _ (List.mem_append_left _ h)))))))))))))))))))))))))
theorem bw_wsL_law_r15 : ∀ w ∈ wsL_law_r15, w ∈ BW := fun _ h => (List.mem_append_left _ (List.mem_append_left _ (List.mem_append_left _ (List.mem_append_left _ (List.mem_append_left _ (List.mem_append_left _ (List.mem_append_left _ (List.mem_append_left _ (List.mem_append_left _ (List.mem_append_left _ (List.mem_append_left _ (List.mem_append_right _ (List.mem_append_right _ (List.mem_append_right _ (List.mem_append_right _ (List.mem_append_right _ (List.mem_append_right _ (List.mem_append_right _ (List.mem_append_right _ (List.mem_append_right _ (List.mem_append_right _ (List.mem_append_right _ (List.mem_append_right _ (List.mem_append_right _ (List.mem_append_right _ (List.mem_append_left _ h))))))))))))))))))))))))))
theorem bw_wsL_law_r16 : ∀ w ∈ wsL_law_r16, w ∈ BW := fun _ h => (List.mem_append_left _ (List.mem_append_left _ (List.mem_append_left _ (List.mem_append_left _ (List.mem_append_left _ (List.mem_append_left _ (List.mem_append_left _ (List.mem_append_left _ (List.mem_append_left _ (List.mem_append_left _ (List.mem_append_left _ (List.mem_append_right _ (List.mem_append_right _ (List.mem_append_right _ (List.mem_append_right _ (List.mem_append_right _ (List.mem_append_right _ (List.mem_append_right _ (List.mem_append_right _ (List.mem_append_right _ (List.mem_append_right _ (List.mem_append_right _ (List.mem_append_right _ (List.mem_append_right _ (List.mem_append_right _ (List.mem_append_right _ (List.mem_append_left _ h)))))))))))))))))))))))))))
theorem bw_wsL_law_r17 : ∀ w ∈ wsL_law_r17, w ∈ BW := fun _ h => (List.mem_append_left _ (List.mem_append_left _ (List.mem_append_left _ (List.mem_append_left _ (List.mem_append_left _ (List.mem_append_left _ (List.mem_append_left _ (List.mem_append_left _ (List.mem_append_left _ (List.mem_append_left _ (List.mem_append_left _ (List.mem_append_right _ (List.mem_append_right _ (List.mem_append_right _ (List.mem_append_right _ (List.mem_append_right _ (List.mem_append_right _ (List.mem_append_right _ (List.mem_append_right _ (List.mem_append_right _ (List.mem_append_right _ (List.mem_append_right _ (List.mem_append_right _ (List.mem_append_right _ (List.mem_append_right _ (List.mem_append_right _ (List.mem_append_right _ (List.mem_append_left _ h))))))))))))))))))))))))))))
theorem bw_wsL_law_r18 : ∀ w ∈ wsL_law_r18, w ∈ BW := fun _ h => (List.mem_append_left _ (List.mem_append_left _ (List.mem_append_left _ (List.mem_append_left _ (List.mem_append_left _ (List.mem_append_left _ (List.mem_append_left _ (List.mem_append_left _ (List.mem_append_left _ (List.mem_append_left _ (List.mem_append_left _ (List.mem_append_right _ (List.mem_append_right _ (List.mem_append_right _ (List.mem_append_right _ (List.mem_append_right _ (List.mem_append_right _ (List.mem_append_right _ (List.mem_append_right _ (List.mem_append_right _ (List.mem_append_right _ (List.mem_append_right _ (List.mem_append_right _ (List.mem_append_right _ (List.mem_append_right _ (List.mem_append_right _ (List.mem_append_right _ (List.mem_append_right _ (List.mem_append_left _ h)))))))))))))))))))))))))))))
theorem bw_wsL_law_r19 : ∀ w ∈ wsL_law_r19, w ∈ BW := fun _ h => (List.mem_append_left _ (List.mem_append_left _ (List.mem_append_left _ (List.mem_append_left _ (List.mem_append_left _ (List.mem_append_left _ (List.mem_append_left _ (List.mem_append_left _ (List.mem_append_left _ (List.mem_append_left _ (List.mem_append_left _ (List.mem_append_right _ (List.mem_append_right _ (List.mem_append_right _ (List.mem_append_right _ (List.mem_append_right _ (List.mem_append_right _ (List.mem_append_right _ (List.mem_append_right _ (List.mem_append_right _ (List.mem_append_right _ (List.mem_append_right _ (List.mem_append_right _ (List.mem_append_right _ (List.mem_append_right _ (List.mem_append_right _ (List.mem_append_right _ (List.mem_append_right _ (List.mem_append_right _ (List.mem_append_left _ h))))))))))))))))))))))))))))))
theorem bw_wsL_law_r20 : ∀ w ∈ wsL_law_r20, w ∈ BW := fun _ h => (List.mem_append_left _ (List.mem_append_left _ (List.mem_append_left _ (List.mem_append_left _ (List.mem_append_left _ (List.mem_append_left _ (List.mem_append_left _ (List.mem_append_left _ (List.mem_append_left _ (List.mem_append_left _ (List.mem_append_left _ (List.mem_append_right _ (List.mem_append_right _ (List.mem_append_right _ (List.mem_append_right _ (List.mem_append_right _ (List.mem_append_right _ (List.mem_append_right _ (List.mem_append_right _ (List.mem_append_right _ (List.mem_append_right _ (List.mem_append_right _ (List.mem_append_right _ (List.mem_append_right _ (List.mem_append_right _ (List.mem_append_right _ (List.mem_append_right _ (List.mem_append_right _ (List.mem_append_right _ (List.mem_append_right _ (List.mem_append_left _ h)))))))))))))))))))))))))))))))
theorem bw_wsL_law_r21 : ∀ w ∈ wsL_law_r21, w ∈ BW := fun _ h => (List.mem_append_left _ (List.mem_append_left _ (List.mem_append_left _ (List.mem_append_left _ (List.mem_append_left _ (List.mem_append_left _ (List.mem_append_left _ (List.mem_append_left _ (List.mem_append_left _ (List.mem_append_left _ (List.mem_append_left _ (List.mem_append_right _ (List.mem_append_right _ (List.mem_append_right _ (List.mem_append_right _ (List.mem_append_right _ (List.mem_append_right _ (List.mem_append_right _ (List.mem_append_right _ (List.mem_append_right _ (List.mem_append_right _ (List.mem_append_right _ (List.mem_append_right _ (List.mem_append_right _ (List.mem_append_right _ (List.mem_append_right _ (List.mem_append_right _ (List.mem_append_right _ (List.mem_append_right _ (List.mem_append_right _ (List.mem_append_right _ (List.mem_append_left _ h))))))))))))))))))))))))))))))))
theorem bw_wsL_law_r22 : ∀ w ∈ wsL_law_r22, w ∈ BW := fun _ h => (List.mem_append_left _ (List.mem_append_left _ (List.mem_append_left _ (List.mem_append_left _ (List.mem_append_left _ (List.mem_append_left _ (List.mem_append_left _ (List.mem_append_left _ (List.mem_append_left _ (List.mem_append_left _ (List.mem_append_left _ (List.mem_append_right _ (List.mem_append_right _ (List.mem_append_right _ (List.mem_append_right _ (List.mem_append_right _ (List.mem_append_right _ (List.mem_append_right _ (List.mem_append_right _ (List.mem_append_right _ (List.mem_append_right _ (List.mem_append_right _ (List.mem_append_right _ (List.mem_append_right _ (List.mem_append_right _ (List.mem_append_right _ (List.mem_append_right _ (List.mem_append_right _ (List.mem_append_right _ (List.mem_append_right _ (List.mem_append_right _ (List.mem_append_right _ (List.mem_append_left _ h)))))))))))))))))))))))))))))))))
theorem bw_wsL_law_r23 : ∀ w ∈ wsL_law_r23, w ∈ BW := fun _ h => (List.mem_append_left _ (List.mem_append_left _ (List.mem_append_left _ (List.mem_append_left _ (List.mem_append_left _ (List.mem_append_left _ (List.mem_append_left _ (List.mem_append_left _ (List.mem_append_left _ (List.mem_append_left _ (List.mem_append_left _ (List.mem_append_right _ (List.mem_append_right _ (List.mem_append_right _ (List.mem_append_right _ (List.mem_append_right _ (List.mem_append_right _ (List.mem_append_right _ (List.mem_append_right _ (List.mem_append_right _ (List.mem_append_right _ (List.mem_append_right _ (List.mem_append_right _ (List.mem_append_right _ (List.mem_append_right _ (List.mem_append_right _ (List.mem_append_right _ (List.mem_append_right _ (List.mem_append_right _ (List.mem_append_right _ (List.mem_append_right _ (List.mem_append_right _ (List.mem_append_right _ (List.mem_append_left _ h))))))))))))))))))))))))))))))))))
theorem bw_wsL_law_r24 : ∀ w ∈ wsL_law_r24, w ∈ BW := fun _ h => (List.mem_append_left _ (List.mem_append_left _ (List.mem_append_left _ (List.mem_append_left _ (List.mem_append_left _ (List.mem_append_left _ (List.mem_append_left _ (List.mem_append_left _ (List.mem_append_left _ (List.mem_append_left _ (List.mem_append_left _ (List.mem_append_right _ (List.mem_append_right _ (List.mem_append_right _ (List.mem_append_right _ (List.mem_append_right _ (List.mem_append_right _ (List.mem_append_right _ (List.mem_append_right _ (List.mem_append_right _ (List.mem_append_right _ (List.mem_append_right _ (List.mem_append_right _ (List.mem_append_right _ (List.mem_append_right _ (List.mem_append_right _ (List.mem_append_right _ (List.mem_append_right _ (List.mem_append_right _ (List.mem_append_right _ (List.mem_append_right _ (List.mem_append_right _ (List.mem_append_right _ (List.mem_append_right _ (List.mem_append_left _ h)))))))))))))))))))))))))))))))))))
theorem bw_wsL_law_r25 : ∀ w ∈ wsL_law_r25, w ∈ BW := fun _ h => (List.mem_append_left _ (List.mem_append_left _ (List.mem_append_left _ (List.mem_append_left _ (List.mem_append_left _ (List.mem_append_left _ (List.mem_append_left _ (List.mem_append_left _ (List.mem_append_left _ (List.mem_append_left _ (List.mem_append_left _ (List.mem_append_right _ (List.mem_append_right _ (List.mem_append_right _ (List.mem_append_right _ (List.mem_append_right _ (List.mem_append_right _ (List.mem_append_right _ (List.mem_append_right _ (List.mem_append_right _ (List.mem_append_right _ (List.mem_append_right _ (List.mem_append_right _ (List.mem_append_right _ (List.mem_append_right _ (List.mem_append_right _ (List.mem_append_right _ (List.mem_append_right _ (List.mem_append_right _ (List.mem_append_right _ (List.mem_append_right _ (List.mem_append_right _ (List.mem_append_right _ (List.mem_append_right _ (List.mem_append_right _ (List.mem_append_left _ h))))))))))))))))))))))))))))))))))))
theorem bw_wsL_law_r26 : ∀ w ∈ wsL_law_r26, w ∈ BW := fun _ h => (List.mem_append_left _ (List.mem_append_left _ (List.mem_append_left _ (List.mem_append_left _ (List.mem_append_left _ (List.mem_append_left _ (List.mem_append_left _ (List.mem_append_left _ (List.mem_append_left _ (List.mem_append_left _ (List.mem_append_left _ (List.mem_append_right _ (List.mem_append_right _ (List.mem_append_right _ (List.mem_append_right _ (List.mem_append_right _ (List.mem_append_right _ (List.mem_append_right _ (List.mem_append_right _ (List.mem_append_right _ (List.mem_append_right _ (List.mem_append_right _ (List.mem_append_right _ (List.mem_append_right _ (List.mem_append_right _ (List.mem_append_right _ (List.mem_append_right _ (List.mem_append_right _ (List.mem_append_right _ (List.mem_append_right _ (List.mem_append_right _ (List.mem_append_right _ (List.mem_append_right _ (List.mem_append_right _ (List.mem_append_right _ (List.mem_append_right _ (List.mem_append_left _ h)))))))))))))))))))))))))))))))))))))
theorem bw_wsL_law_r27 : ∀ w ∈ wsL_law_r27, w ∈ BW := fun _ h => (List.mem_append_left _ (List.mem_append_left _ (List.mem_append_left _ (List.mem_append_left _ (List.mem_append_left _ (List.mem_append_left _ (List.mem_append_left _ (List.mem_append_left _ (List.mem_append_left _ (List.mem_append_left _ (List.mem_append_left _ (List.mem_append_right _ (List.mem_append_right _ (List.mem_append_right _ (List.mem_append_right _ (List.mem_append_right _ (List.mem_append_right _ (List.mem_append_right _ (List.mem_append_right _ (List.mem_append_right _ (List.mem_append_right _ (List.mem_append_right _ (List.mem_append_right _ (List.mem_append_right _ (List.mem_append_right _ (List.mem_append_right _ (List.mem_append_right _ (List.mem_append_right _ (List.mem_append_right _ (List.mem_append_right _ (List.mem_append_right _ (List.mem_append_right _ (List.mem_append_right _ (List.mem_append_right _ (List.mem_append_right _ (List.mem_append_right _ (List.mem_append_right _ (List.mem_append_left _ h))))))))))))))))))))))))))))))))))))))
theorem bw_wsL_law_r28 : ∀ w ∈ wsL_law_r28, w ∈ BW := fun _ h => (List.mem_append_left _ (List.mem_append_left _ (List.mem_append_left _ (List.mem_append_left _ (List.mem_append_left _ (List.mem_append_left _ (List.mem_append_left _ (List.mem_append_left _ (List.mem_append_left _ (List.mem_append_left _ (List.mem_append_left _ (List.mem_append_right _ (List.mem_append_right _ (List.mem_append_right _ (List.mem_append_right _ (List.mem_append_right _ (List.mem_append_right _ (List.mem_append_right _ (List.mem_append_right _ (List.mem_append_right _ (List.mem_append_right _ (List.mem_append_right _ (List.mem_append_right _ (List.mem_append_right _ (List.mem_append_right _ (List.mem_append_right _ (List.mem_append_right _ (List.mem_append_right _ (List.mem_append_right _ (List.mem_append_right _ (List.mem_append_right _ (List.mem_append_right _ (List.mem_append_right _ (List.mem_append_right _ (List.mem_append_right _ (List.mem_append_right _ (List.mem_append_right _ (List.mem_append_right _ (List.mem_append_left _ h)))))))))))))))))))))))))))))))))))))))
theorem bw_wsL_law_r29 : ∀ w ∈ wsL_law_r29, w ∈ BW := fun _ h => (List.mem_append_left _ (List.mem_append_left _ (List.mem_append_left _ (List.mem_append_left _ (List.mem_append_left _ (List.mem_append_left _ (List.mem_append_left _ (List.mem_append_left _ (List.mem_append_left _ (List.mem_append_left _ (List.mem_append_left _ (List.mem_append_right _ (List.mem_append_right _ (List.mem_append_right _ (List.mem_append_right _ (List.mem_append_right _ (List.mem_append_right _ (List.mem_append_right _ (List.mem_append_right _ (List.mem_append_right _ (List.mem_append_right _ (List.mem_append_right _ (List.mem_append_right _ (List.mem_append_right _ (List.mem_append_right _ (List.mem_append_right _ (List.mem_append_right _ (List.mem_append_right _ (List.mem_append_right _ (List.mem_append_right _ (List.mem_append_right _ (List.mem_append_right _ (List.mem_append_right _ (List.mem_append_right _ (List.mem_append_right _ (List.mem_append_right _ (List.mem_append_right _ (List.mem_append_right _ (List.mem_append_right _ (List.mem_append_left _ h))))))))))))))))))))))))))))))))))))))))
theorem bw_wsL_law_r30 : ∀ w ∈ wsL_law_r30, w ∈ BW := fun _ h => (List.mem_append_left _ (List.mem_append_left _ (List.mem_append_left _ (List.mem_append_left _ (List.mem_append_left _ (List.mem_append_left _ (List.mem_append_left _ (List.mem_append_left _ (List.mem_append_left _ (List.mem_append_left _ (List.mem_append_left _ (List.mem_append_right _ (List.mem_append_right _ (List.mem_append_right _ (List.mem_append_right _ (List.mem_append_right _ (List.mem_append_right _ (List.mem_append_right _ (List.mem_append_right _ (List.mem_append_right _ (List.mem_append_right _ (List.mem_append_right _ (List.mem_append_right _ (List.mem_append_right _ (List.mem_append_right _ (List.mem_append_right _ (List.mem_append_right _ (List.mem_append_right _ (List.mem_append_right _ (List.mem_append_right _ (List.mem_append_right _ (List.mem_append_right _ (List.mem_append_right _ (List.mem_append_right _ (List.mem_append_right _ (List.mem_append_right _ (List.mem_append_right _ (List.mem_append_right _ (List.mem_append_right _ (List.mem_append_right _ (List.mem_append_left _ h)))))))))))))))))))))))))))))))))))))))))
theorem bw_wsL_law_r31 : ∀ w ∈ wsL_law_r31, w ∈ BW := fun _ h => (List.mem_append_left _ (List.mem_append_left _ (List.mem_append_left _ (List.mem_append_left _ (List.mem_append_left _ (List.mem_append_left _ (List.mem_append_left _ (List.mem_append_left _ (List.mem_append_left _ (List.mem_append_left _ (List.mem_append_left _ (List.mem_append_right _ (List.mem_append_right _ (List.mem_append_right _ (List.mem_append_right _ (List.mem_append_right _ (List.mem_append_right _ (List.mem_append_right _ (List.mem_append_right _ (List.mem_append_right _ (List.mem_append_right _ (List.mem_append_right _ (List.mem_append_right _ (List.mem_append_right _ (List.mem_append_right _ (List.mem_append_right _ (List.mem_append_right _ (List.mem_append_right _ (List.mem_append_right _ (List.mem_append_right _ (List.mem_append_right _ (List.mem_append_right _ (List.mem_append_right _ (List.mem_append_right _ (List.mem_append_right _ (List.mem_append_right _ (List.mem_append_right _ (List.mem_append_right _ (List.mem_append_right _ (List.mem_append_right _ (List.mem_append_right _ (List.mem_append_left _ h))))))))))))))))))))))))))))))))))))))))))
theorem bw_wsL_law_r32 : ∀ w ∈ wsL_law_r32, w ∈ BW := fun _ h => (List.mem_append_left _ (List.mem_append_left _ (List.mem_append_left _ (List.mem_append_left _ (List.mem_append_left _ (List.mem_append_left _ (List.mem_append_left _ (List.mem_append_left _ (List.mem_append_left _ (List.mem_append_left _ (List.mem_append_left _ (List.mem_append_right _ (List.mem_append_right _ (List.mem_append_right _ (List.mem_append_right _ (List.mem_append_right _ (List.mem_append_right _ (List.mem_append_right _ (List.mem_append_right _ (List.mem_append_right _ (List.mem_append_right _ (List.mem_append_right _ (List.mem_append_right _ (List.mem_append_right _ (List.mem_append_right _ (List.mem_append_right _ (List.mem_append_right _ (List.mem_append_right _ (List.mem_append_right _ (List.mem_append_right _ (List.mem_append_right _ (List.mem_append_right _ (List.mem_append_right _ (List.mem_append_right _ (List.mem_append_right _ (List.mem_append_right _ (List.mem_append_right _ (List.mem_append_right _ (List.mem_append_right _ (List.mem_append_right _ (List.mem_append_right _ (List.mem_append_right _ (List.mem_append_left _ h)))))))))))))))))))))))))))))))))))))))))))
theorem bw_wsL_law_r33 : ∀ w ∈ wsL_law_r33, w ∈ BW := fun _ h => (List.mem_append_left _ (List.mem_append_left _ (List.mem_append_left _ (List.mem_append_left _ (List.mem_append_left _ (List.mem_append_left _ (List.mem_append_left _ (List.mem_append_left _ (List.mem_append_left _ (List.mem_append_left _ (List.mem_append_left _ (List.mem_append_right _ (List.mem_append_right _ (List.mem_append_right _ (List.mem_append_right _ (List.mem_append_right _ (List.mem_append_right _ (List.mem_append_right _ (List.mem_append_right _ (List.mem_append_right _ (List.mem_append_right _ (List.mem_append_right _ (List.mem_append_right _ (List.mem_append_right _ (List.mem_append_right _ (List.mem_append_right _ (List.mem_append_right _ (List.mem_append_right _ (List.mem_append_right _ (List.mem_append_right _ (List.mem_append_right _ (List.mem_append_right _ (List.mem_append_right _ (List.mem_append_right _ (List.mem_append_right _ (List.mem_append_right _ (List.mem_append_right _ (List.mem_append_right _ (List.mem_append_right _ (List.mem_append_right _ (List.mem_append_right _ (List.mem_append_right _ (List.mem_append_right _ (List.mem_append_left _ h))))))))))))))))))))))))))))))))))))))))))))
theorem bw_wsL_law_r34 : ∀ w ∈ wsL_law_r34, w ∈ BW := fun _ h => (List.mem_append_left _ (List.mem_append_left _ (List.mem_append_left _ (List.mem_append_left _ (List.mem_append_left _ (List.mem_append_left _ (List.mem_append_left _ (List.mem_append_left _ (List.mem_append_left _ (List.mem_append_left _ (List.mem_append_left _ (List.mem_append_right _ (List.mem_append_right _ (List.mem_append_right _ (List.mem_append_right _ (List.mem_append_right _ (List.mem_append_right _ (List.mem_append_right _ (List.mem_append_right _ (List.mem_append_right _ (List.mem_append_right _ (List.mem_append_right _ (List.mem_append_right _ (List.mem_append_right _ (List.mem_append_right _ (List.mem_append_right _ (List.mem_append_right _ (List.mem_append_right _ (List.mem_append_right _ (List.mem_append_right _ (List.mem_append_right _ (List.mem_append_right _ (List.mem_append_right _ (List.mem_append_right _ (List.mem_append_right _ (List.mem_append_right _ (List.mem_append_right _ (List.mem_append_right _ (List.mem_append_right _ (List.mem_append_right _ (List.mem_append_right _ (List.mem_append_right _ (List.mem_append_right _ (List.mem_append_right _ (List.mem_append_left _ h)))))))))))))))))))))))))))))))))))))))))))))
theorem bw_wsL_law_r35 : ∀ w ∈ wsL_law_r35, w ∈ BW := fun _ h => (List.mem_append_left _ (List.mem_append_left _ (List.mem_append_left _ (List.mem_append_left _ (List.mem_append_left _ (List.mem_append_left _ (List.mem_append_left _ (List.mem_append_left _ (List.mem_append_left _ (List.mem_append_left _ (List.mem_append_left _ (List.mem_append_right _ (List.mem_append_right _ (List.mem_append_right _ (List.mem_append_right _ (List.mem_append_right _ (List.mem_append_right _ (List.mem_append_right _ (List.mem_append_right _ (List.mem_append_right _ (List.mem_append_right _ (List.mem_append_right _ (List.mem_append_right _ (List.mem_append_right _ (List.mem_append_right _ (List.mem_append_right _ (List.mem_append_right _ (List.mem_append_right _ (List.mem_append_right _ (List.mem_append_right _ (List.mem_append_right _ (List.mem_append_right _ (List.mem_append_right _ (List.mem_append_right _ (List.mem_append_right _ (List.mem_append_right _ (List.mem_append_right _ (List.mem_append_right _ (List.mem_append_right _ (List.mem_append_right _ (List.mem_append_right _ (List.mem_append_right _ (List.mem_append_right _ (List.mem_append_right _ (List.mem_append_right _ h)))))))))))))))))))))))))))))))))))))))))))))
theorem bw_wsX80 : ∀ w ∈ wsX80, w ∈ BW := fun _ h => (List.mem_append_left _ (List.mem_append_left _ (List.mem_append_left _ (List.mem_append_left _ (List.mem_append_left _ (List.mem_append_left _ (List.mem_append_left _ (List.mem_append_left _ (List.mem_append_left _ (List.mem_append_left _ (List.mem_append_right _ h)))))))))))
theorem bw_wsX90 : ∀ w ∈ wsX90, w ∈ BW := fun _ h => (List.mem_append_left _ (List.mem_append_left _ (List.mem_append_left _ (List.mem_append_left _ (List.mem_append_left _ (List.mem_append_left _ (List.mem_append_left _ (List.mem_append_left _ (List.mem_append_left _ (List.mem_append_right _ h))))))))))
theorem bw_wsX60 : ∀ w ∈ wsX60, w ∈ BW := fun _ h => (List.mem_append_left _ (List.mem_append_left _ (List.mem_append_left _ (List.mem_append_left _ (List.mem_append_left _ (List.mem_append_left _ (List.mem_append_left _ (List.mem_append_left _ (List.mem_append_right _ h)))))))))
theorem bw_wsX40 : ∀ w ∈ wsX40, w ∈ BW := fun _ h => (List.mem_append_left _ (List.mem_append_left _ (List.mem_append_left _ (List.mem_append_left _ (List.mem_append_left _ (List.mem_append_left _ (List.mem_append_left _ (List.mem_append_right _ h))))))))
theorem bw_wsX10 : ∀ w ∈ wsX10, w ∈ BW := fun _ h => (List.mem_append_left _ (List.mem_append_left _ (List.mem_append_left _ (List.mem_append_left _ (List.mem_append_left _ (List.mem_append_left _ (List.mem_append_right _ h)))))))
theorem bw_wsX30 : ∀ w ∈ wsX30, w ∈ BW := fun _ h => (List.mem_append_left _ (List.mem_append_left _ (List.mem_append_left _ (List.mem_append_left _ (List.mem_append_left _ (List.mem_append_right _ h))))))
theorem bw_wsX00 : ∀ w ∈ wsX00, w ∈ BW := fun _ h => (List.mem_append_left _ (List.mem_append_left _ (List.mem_append_left _ (List.mem_append_left _ (List.mem_append_right _ h)))))
theorem bw_wsX50 : ∀ w ∈ wsX50, w ∈ BW := fun _ h => (List.mem_append_left _ (List.mem_append_left _ (List.mem_append_left _ (List.mem_append_right _ h))))
theorem bw_wsX70 : ∀ w ∈ wsX70, w ∈ BW := fun _ h => (List.mem_append_left _ (List.mem_append_left _ (List.mem_append_right _ h)))
theorem bw_wsX20 : ∀ w ∈ wsX20, w ∈ BW := fun _ h => (List.mem_append_left _ (List.mem_append_right _ h))
theorem gd_app {a b : List Cond} (ha : ∀ w ∈ a, goodWord w = true) (hb : ∀ w ∈ b, goodWord w = true) : ∀ w ∈ a ++ b, goodWord w = true := fun w h => (List.mem_append.mp h).elim (ha w) (hb w)
theorem gd_wsL_law_r1 : ∀ w ∈ wsL_law_r1, goodWord w = true := List.all_eq_true.mp rfl
theorem gd_wsL_law_r2 : ∀ w ∈ wsL_law_r2, goodWord w = true := List.all_eq_true.mp rfl
theorem gd_wsL_law_r3 : ∀ w ∈ wsL_law_r3, goodWord w = true := List.all_eq_true.mp rfl
theorem gd_wsL_law_r4 : ∀ w ∈ wsL_law_r4, goodWord w = true := List.all_eq_true.mp rfl
theorem gd_wsL_law_r5 : ∀ w ∈ wsL_law_r5, goodWord w = true := List.all_eq_true.mp rfl
theorem gd_wsL_law_r6 : ∀ w ∈ wsL_law_r6, goodWord w = true := List.all_eq_true.mp rfl
theorem gd_wsL_law_r7 : ∀ w ∈ wsL_law_r7, goodWord w = true := List.all_eq_true.mp rfl
theorem gd_wsL_law_r8 : ∀ w ∈ wsL_law_r8, goodWord w = true := List.all_eq_true.mp rfl
theorem gd_wsL_law_r9 : ∀ w ∈ wsL_law_r9, goodWord w = true := List.all_eq_true.mp rfl
theorem gd_wsL_law_r10 : ∀ w ∈ wsL_law_r10, goodWord w = true := List.all_eq_true.mp rfl
theorem gd_wsL_law_r11 : ∀ w ∈ wsL_law_r11, goodWord w = true := List.all_eq_true.mp rfl
theorem gd_wsL_law_r12 : ∀ w ∈ wsL_law_r12, goodWord w = true := List.all_eq_true.mp rfl
theorem gd_wsL_law_r13 : ∀ w ∈ wsL_law_r13, goodWord w = true := List.all_eq_true.mp rfl
theorem gd_wsL_law_r14 : ∀ w ∈ wsL_law_r14, goodWord w = true := List.all_eq_true.mp rfl
theorem gd_wsL_law_r15 : ∀ w ∈ wsL_law_r15, goodWord w = true := List.all_eq_true.mp rfl
theorem gd_wsL_law_r16 : ∀ w ∈ wsL_law_r16, goodWord w = true := List.all_eq_true.mp rfl
theorem gd_wsL_law_r17 : ∀ w ∈ wsL_law_r17, goodWord w = true := List.all_eq_true.mp rfl
theorem gd_wsL_law_r18 : ∀ w ∈ wsL_law_r18, goodWord w = true := List.all_eq_true.mp rfl
theorem gd_wsL_law_r19 : ∀ w ∈ wsL_law_r19, goodWord w = true := List.all_eq_true.mp rfl
theorem gd_wsL_law_r20 : ∀ w ∈ wsL_law_r20, goodWord w = true := List.all_eq_true.mp rfl
theorem gd_wsL_law_r21 : ∀ w ∈ wsL_law_r21, goodWord w = true := List.all_eq_true.mp rfl
theorem gd_wsL_law_r22 : ∀ w ∈ wsL_law_r22, goodWord w = true := List.all_eq_true.mp rfl
theorem gd_wsL_law_r23 : ∀ w ∈ wsL_law_r23, goodWord w = true := List.all_eq_true.mp rfl
theorem gd_wsL_law_r24 : ∀ w ∈ wsL_law_r24, goodWord w = true := List.all_eq_true.mp rfl
theorem gd_wsL_law_r25 : ∀ w ∈ wsL_law_r25, goodWord w = true := List.all_eq_true.mp rfl
theorem gd_wsL_law_r26 : ∀ w ∈ wsL_law_r26, goodWord w = true := List.all_eq_true.mp rfl
theorem gd_wsL_law_r27 : ∀ w ∈ wsL_law_r27, goodWord w = true := List.all_eq_true.mp rfl
theorem gd_wsL_law_r28 : ∀ w ∈ wsL_law_r28, goodWord w = true := List.all_eq_true.mp rfl
theorem gd_wsL_law_r29 : ∀ w ∈ wsL_law_r29, goodWord w = true := List.all_eq_true.mp rfl
theorem gd_wsL_law_r30 : ∀ w ∈ wsL_law_r30, goodWord w = true := List.all_eq_true.mp rfl
theorem gd_wsL_law_r31 : ∀ w ∈ wsL_law_r31, goodWord w = true := List.all_eq_true.mp rfl
theorem gd_wsL_law_r32 : ∀ w ∈ wsL_law_r32, goodWord w = true := List.all_eq_true.mp rfl
theorem gd_wsL_law_r33 : ∀ w ∈ wsL_law_r33, goodWord w = true := List.all_eq_true.mp rfl
theorem gd_wsL_law_r34 : ∀ w ∈ wsL_law_r34, goodWord w = true := List.all_eq_true.mp rfl
theorem gd_wsL_law_r35 : ∀ w ∈ wsL_law_r35, goodWord w = true := List.all_eq_true.mp rfl
theorem gd_wsX80 : ∀ w ∈ wsX80, goodWord w = true := List.all_eq_true.mp rfl
theorem gd_wsX90 : ∀ w ∈ wsX90, goodWord w = true := List.all_eq_true.mp rfl
theorem gd_wsX60 : ∀ w ∈ wsX60, goodWord w = true := List.all_eq_true.mp rfl
theorem gd_wsX40 : ∀ w ∈ wsX40, goodWord w = true := List.all_eq_true.mp rfl
theorem gd_wsX10 : ∀ w ∈ wsX10, goodWord w = true := List.all_eq_true.mp rfl
theorem gd_wsX30 : ∀ w ∈ wsX30, goodWord w = true := List.all_eq_true.mp rfl
theorem gd_wsX00 : ∀ w ∈ wsX00, goodWord w = true := List.all_eq_true.mp rfl
theorem gd_wsX50 : ∀ w ∈ wsX50, goodWord w = true := List.all_eq_true.mp rfl
theorem gd_wsX70 : ∀ w ∈ wsX70, goodWord w = true := List.all_eq_true.mp rfl
theorem gd_wsX20 : ∀ w ∈ wsX20, goodWord w = true := List.all_eq_true.mp rfl
theorem gd_BW : ∀ w ∈ BW, goodWord w = true := (gd_app (gd_app (gd_app (gd_app (gd_app (gd_app (gd_app (gd_app (gd_app (gd_app (gd_app (gd_app gd_wsL_law_r1 (gd_app gd_wsL_law_r2 (gd_app gd_wsL_law_r3 (gd_app gd_wsL_law_r4 (gd_app gd_wsL_law_r5 (gd_app gd_wsL_law_r6 (gd_app gd_wsL_law_r7 (gd_app gd_wsL_law_r8 (gd_app gd_wsL_law_r9 (gd_app gd_wsL_law_r10 (gd_app gd_wsL_law_r11 (gd_app gd_wsL_law_r12 (gd_app gd_wsL_law_r13 (gd_app gd_wsL_law_r14 (gd_app gd_wsL_law_r15 (gd_app gd_wsL_law_r16 (gd_app gd_wsL_law_r17 (gd_app gd_wsL_law_r18 (gd_app gd_wsL_law_r19 (gd_app gd_wsL_law_r20 (gd_app gd_wsL_law_r21 (gd_app gd_wsL_law_r22 (gd_app gd_wsL_law_r23 (gd_app gd_wsL_law_r24 (gd_app gd_wsL_law_r25 (gd_app gd_wsL_law_r26 (gd_app gd_wsL_law_r27 (gd_app gd_wsL_law_r28 (gd_app gd_wsL_law_r29 (gd_app gd_wsL_law_r30 (gd_app gd_wsL_law_r31 (gd_app gd_wsL_law_r32 (gd_app gd_wsL_law_r33 (gd_app gd_wsL_law_r34 gd_wsL_law_r35)))))))))))))))))))))))))))))))))) gd_wsX80) gd_wsX90) gd_wsX60) gd_wsX40) gd_wsX10) gd_wsX30) gd_wsX00) gd_wsX50) gd_wsX70) gd_wsX20) (fun _ h => absurd h List.not_mem_nil))
theorem mw0 : Cond.classLink RL 7 RX8 ∈ BW := bw_wsL_law_r1 _ (List.mem_of_getElem? (i := 0) rfl)
theorem mw1 : Cond.instantiable RX8 11 ∈ BW := bw_wsL_law_r1 _ (List.mem_of_getElem? (i := 1) rfl)
theorem mw2 : Cond.initialized RX8 ∈ BW := bw_wsL_law_r1 _ (List.mem_of_getElem? (i := 2) rfl)
theorem mw3 : Cond.classLink RL 10 RX9 ∈ BW := bw_wsL_law_r1 _ (List.mem_of_getElem? (i := 3) rfl)
theorem mw4 : Cond.instantiable RX9 29 ∈ BW := bw_wsL_law_r1 _ (List.mem_of_getElem? (i := 4) rfl)
theorem mw5 : Cond.initialized RX9 ∈ BW := bw_wsL_law_r1 _ (List.mem_of_getElem? (i := 5) rfl)
theorem mw6 : Cond.methodLink RL 9 yX8_init ∈ BW := bw_wsL_law_r1 _ (List.mem_of_getElem? (i := 6) rfl)
theorem mw7 : Cond.instanceMethod yX8_init ∈ BW := bw_wsL_law_r1 _ (List.mem_of_getElem? (i := 7) rfl)
theorem mw8 : Cond.code yX8_init cX8_init 2 none ∈ BW := bw_wsL_law_r1 _ (List.mem_of_getElem? (i := 8) rfl)
theorem mw9 : Cond.methodLink RX8 1 objectInit ∈ BW := bw_wsL_law_r1 _ (List.mem_of_getElem? (i := 9) rfl)
theorem mw10 : Cond.instanceMethod objectInit ∈ BW := bw_wsL_law_r1 _ (List.mem_of_getElem? (i := 10) rfl)
theorem mw11 : Cond.code objectInit ⟨#[0xb1]⟩ 1 none ∈ BW := bw_wsL_law_r1 _ (List.mem_of_getElem? (i := 11) rfl)
theorem mw12 : Cond.classLink RX8 7 RX6 ∈ BW := bw_wsL_law_r1 _ (List.mem_of_getElem? (i := 12) rfl)
theorem mw13 : Cond.instantiable RX6 2 ∈ BW := bw_wsL_law_r1 _ (List.mem_of_getElem? (i := 13) rfl)
theorem mw14 : Cond.initialized RX6 ∈ BW := bw_wsL_law_r1 _ (List.mem_of_getElem? (i := 14) rfl)
theorem mw15 : Cond.fieldLink RX8 10 "OneJohn" "text" "LOneJohn$Text;" ∈ BW := bw_wsL_law_r1 _ (List.mem_of_getElem? (i := 15) rfl)
theorem mw16 : Cond.classLink RX8 16 RX4 ∈ BW := bw_wsL_law_r1 _ (List.mem_of_getElem? (i := 16) rfl)
theorem mw17 : Cond.instantiable RX4 6 ∈ BW := bw_wsL_law_r1 _ (List.mem_of_getElem? (i := 17) rfl)
theorem mw18 : Cond.initialized RX4 ∈ BW := bw_wsL_law_r1 _ (List.mem_of_getElem? (i := 18) rfl)
theorem mw19 : Cond.fieldLink RX8 19 "OneJohn" "reader" "LOneJohn$Reader;" ∈ BW := bw_wsL_law_r1 _ (List.mem_of_getElem? (i := 19) rfl)
theorem mw20 : Cond.classLink RX8 23 RX1 ∈ BW := bw_wsL_law_r1 _ (List.mem_of_getElem? (i := 20) rfl)
theorem mw21 : Cond.instantiable RX1 6 ∈ BW := bw_wsL_law_r1 _ (List.mem_of_getElem? (i := 21) rfl)
theorem mw22 : Cond.initialized RX1 ∈ BW := bw_wsL_law_r1 _ (List.mem_of_getElem? (i := 22) rfl)
theorem mw23 : Cond.fieldLink RX8 26 "OneJohn" "land" "LOneJohn$Land;" ∈ BW := bw_wsL_law_r1 _ (List.mem_of_getElem? (i := 23) rfl)
theorem mw24 : Cond.classLink RX8 30 RX3 ∈ BW := bw_wsL_law_r2 _ (List.mem_of_getElem? (i := 0) rfl)
theorem mw25 : Cond.instantiable RX3 3 ∈ BW := bw_wsL_law_r2 _ (List.mem_of_getElem? (i := 1) rfl)
theorem mw26 : Cond.initialized RX3 ∈ BW := bw_wsL_law_r2 _ (List.mem_of_getElem? (i := 2) rfl)
theorem mw27 : Cond.fieldLink RX8 33 "OneJohn" "past" "LOneJohn$Past;" ∈ BW := bw_wsL_law_r2 _ (List.mem_of_getElem? (i := 3) rfl)
theorem mw28 : Cond.classLink RX8 37 RX0 ∈ BW := bw_wsL_law_r2 _ (List.mem_of_getElem? (i := 4) rfl)
theorem mw29 : Cond.instantiable RX0 3 ∈ BW := bw_wsL_law_r2 _ (List.mem_of_getElem? (i := 5) rfl)
theorem mw30 : Cond.initialized RX0 ∈ BW := bw_wsL_law_r2 _ (List.mem_of_getElem? (i := 6) rfl)
theorem mw31 : Cond.fieldLink RX8 40 "OneJohn" "told" "LOneJohn$Claims;" ∈ BW := bw_wsL_law_r2 _ (List.mem_of_getElem? (i := 7) rfl)
theorem mw32 : Cond.fieldLink RX8 44 "OneJohn" "records" "LOneJohn$Claims;" ∈ BW := bw_wsL_law_r2 _ (List.mem_of_getElem? (i := 8) rfl)
theorem mw33 : Cond.classLink RX8 47 RX5 ∈ BW := bw_wsL_law_r2 _ (List.mem_of_getElem? (i := 9) rfl)
theorem mw34 : Cond.instantiable RX5 3 ∈ BW := bw_wsL_law_r2 _ (List.mem_of_getElem? (i := 10) rfl)
theorem mw35 : Cond.initialized RX5 ∈ BW := bw_wsL_law_r2 _ (List.mem_of_getElem? (i := 11) rfl)
theorem mw36 : Cond.fieldLink RX8 50 "OneJohn" "renaming" "LOneJohn$Renaming;" ∈ BW := bw_wsL_law_r2 _ (List.mem_of_getElem? (i := 12) rfl)
theorem mw37 : Cond.classLink RX8 54 RX7 ∈ BW := bw_wsL_law_r2 _ (List.mem_of_getElem? (i := 13) rfl)
theorem mw38 : Cond.instantiable RX7 3 ∈ BW := bw_wsL_law_r2 _ (List.mem_of_getElem? (i := 14) rfl)
theorem mw39 : Cond.initialized RX7 ∈ BW := bw_wsL_law_r2 _ (List.mem_of_getElem? (i := 15) rfl)
theorem mw40 : Cond.fieldLink RX8 57 "OneJohn" "wedding" "LOneJohn$Wedding;" ∈ BW := bw_wsL_law_r2 _ (List.mem_of_getElem? (i := 16) rfl)
theorem mw41 : Cond.classLink RX8 61 RX2 ∈ BW := bw_wsL_law_r2 _ (List.mem_of_getElem? (i := 17) rfl)
theorem mw42 : Cond.fieldLink RX8 63 "OneJohn" "images" "[LOneJohn$Now;" ∈ BW := bw_wsL_law_r2 _ (List.mem_of_getElem? (i := 18) rfl)
theorem mw43 : Cond.arrayClass .boolean ∈ BW := bw_wsL_law_r2 _ (List.mem_of_getElem? (i := 19) rfl)
theorem mw44 : Cond.fieldLink RX8 67 "OneJohn" "kept" "[Z" ∈ BW := bw_wsL_law_r2 _ (List.mem_of_getElem? (i := 20) rfl)
theorem mw45 : Cond.fieldLink RX8 71 "OneJohn" "trace" "J" ∈ BW := bw_wsL_law_r2 _ (List.mem_of_getElem? (i := 21) rfl)
theorem mw46 : Cond.instantiable RX2 7 ∈ BW := bw_wsL_law_r2 _ (List.mem_of_getElem? (i := 22) rfl)
theorem mw47 : Cond.initialized RX2 ∈ BW := bw_wsL_law_r2 _ (List.mem_of_getElem? (i := 23) rfl)
theorem mw48 : Cond.instanceMethod yX6_init ∈ BW := bw_wsL_law_r3 _ (List.mem_of_getElem? (i := 0) rfl)
theorem mw49 : Cond.code yX6_init cX6_init 1 none ∈ BW := bw_wsL_law_r3 _ (List.mem_of_getElem? (i := 1) rfl)
theorem mw50 : Cond.methodLink RX6 3 objectInit ∈ BW := bw_wsL_law_r3 _ (List.mem_of_getElem? (i := 2) rfl)
theorem mw51 : Cond.arrayClass .int ∈ BW := bw_wsL_law_r3 _ (List.mem_of_getElem? (i := 3) rfl)
theorem mw52 : Cond.fieldLink RX6 9 "OneJohn$Text" "letters" "[I" ∈ BW := bw_wsL_law_r3 _ (List.mem_of_getElem? (i := 4) rfl)
theorem mw53 : Cond.fieldLink RX6 15 "OneJohn$Text" "length" "I" ∈ BW := bw_wsL_law_r3 _ (List.mem_of_getElem? (i := 5) rfl)
theorem mw54 : Cond.instanceMethod yX4_init ∈ BW := bw_wsL_law_r3 _ (List.mem_of_getElem? (i := 6) rfl)
theorem mw55 : Cond.code yX4_init cX4_init 1 none ∈ BW := bw_wsL_law_r3 _ (List.mem_of_getElem? (i := 7) rfl)
theorem mw56 : Cond.methodLink RX4 3 objectInit ∈ BW := bw_wsL_law_r3 _ (List.mem_of_getElem? (i := 8) rfl)
theorem mw57 : Cond.classLink RX4 9 RX1 ∈ BW := bw_wsL_law_r3 _ (List.mem_of_getElem? (i := 9) rfl)
theorem mw58 : Cond.fieldLink RX4 12 "OneJohn$Reader" "draft" "LOneJohn$Land;" ∈ BW := bw_wsL_law_r3 _ (List.mem_of_getElem? (i := 10) rfl)
theorem mw59 : Cond.fieldLink RX4 18 "OneJohn$Reader" "place" "I" ∈ BW := bw_wsL_law_r3 _ (List.mem_of_getElem? (i := 11) rfl)
theorem mw60 : Cond.fieldLink RX4 22 "OneJohn$Reader" "start" "I" ∈ BW := bw_wsL_law_r3 _ (List.mem_of_getElem? (i := 12) rfl)
theorem mw61 : Cond.fieldLink RX4 25 "OneJohn$Reader" "token" "I" ∈ BW := bw_wsL_law_r3 _ (List.mem_of_getElem? (i := 13) rfl)
theorem mw62 : Cond.fieldLink RX4 28 "OneJohn$Reader" "value" "I" ∈ BW := bw_wsL_law_r3 _ (List.mem_of_getElem? (i := 14) rfl)
theorem mw63 : Cond.fieldLink RX4 31 "OneJohn$Reader" "lawsTold" "Z" ∈ BW := bw_wsL_law_r3 _ (List.mem_of_getElem? (i := 15) rfl)
theorem mw64 : Cond.instanceMethod yX1_init ∈ BW := bw_wsL_law_r3 _ (List.mem_of_getElem? (i := 16) rfl)
theorem mw65 : Cond.code yX1_init cX1_init 1 none ∈ BW := bw_wsL_law_r3 _ (List.mem_of_getElem? (i := 17) rfl)
theorem mw66 : Cond.methodLink RX1 3 objectInit ∈ BW := bw_wsL_law_r3 _ (List.mem_of_getElem? (i := 18) rfl)
theorem mw67 : Cond.fieldLink RX1 9 "OneJohn$Land" "favours" "[I" ∈ BW := bw_wsL_law_r3 _ (List.mem_of_getElem? (i := 19) rfl)
theorem mw68 : Cond.fieldLink RX1 15 "OneJohn$Land" "foes" "[I" ∈ BW := bw_wsL_law_r3 _ (List.mem_of_getElem? (i := 20) rfl)
theorem mw69 : Cond.fieldLink RX1 18 "OneJohn$Land" "due" "[I" ∈ BW := bw_wsL_law_r3 _ (List.mem_of_getElem? (i := 21) rfl)
theorem mw70 : Cond.classLink RX1 21 RX2 ∈ BW := bw_wsL_law_r3 _ (List.mem_of_getElem? (i := 22) rfl)
theorem mw71 : Cond.fieldLink RX1 24 "OneJohn$Land" "now" "LOneJohn$Now;" ∈ BW := bw_wsL_law_r3 _ (List.mem_of_getElem? (i := 23) rfl)
theorem mw72 : Cond.fieldLink RX1 28 "OneJohn$Land" "nameCount" "I" ∈ BW := bw_wsL_law_r4 _ (List.mem_of_getElem? (i := 0) rfl)
theorem mw73 : Cond.fieldLink RX1 32 "OneJohn$Land" "people" "I" ∈ BW := bw_wsL_law_r4 _ (List.mem_of_getElem? (i := 1) rfl)
theorem mw74 : Cond.instanceMethod yX2_init ∈ BW := bw_wsL_law_r4 _ (List.mem_of_getElem? (i := 2) rfl)
theorem mw75 : Cond.code yX2_init cX2_init 1 none ∈ BW := bw_wsL_law_r4 _ (List.mem_of_getElem? (i := 3) rfl)
theorem mw76 : Cond.methodLink RX2 3 objectInit ∈ BW := bw_wsL_law_r4 _ (List.mem_of_getElem? (i := 4) rfl)
theorem mw77 : Cond.fieldLink RX2 9 "OneJohn$Now" "names" "[I" ∈ BW := bw_wsL_law_r4 _ (List.mem_of_getElem? (i := 5) rfl)
theorem mw78 : Cond.fieldLink RX2 15 "OneJohn$Now" "wealth" "[I" ∈ BW := bw_wsL_law_r4 _ (List.mem_of_getElem? (i := 6) rfl)
theorem mw79 : Cond.fieldLink RX2 18 "OneJohn$Now" "deeds" "[I" ∈ BW := bw_wsL_law_r4 _ (List.mem_of_getElem? (i := 7) rfl)
theorem mw80 : Cond.fieldLink RX2 21 "OneJohn$Now" "hurt" "I" ∈ BW := bw_wsL_law_r4 _ (List.mem_of_getElem? (i := 8) rfl)
theorem mw81 : Cond.fieldLink RX2 25 "OneJohn$Now" "laws" "I" ∈ BW := bw_wsL_law_r4 _ (List.mem_of_getElem? (i := 9) rfl)
theorem mw82 : Cond.fieldLink RX2 28 "OneJohn$Now" "chest" "I" ∈ BW := bw_wsL_law_r4 _ (List.mem_of_getElem? (i := 10) rfl)
theorem mw83 : Cond.fieldLink RX2 31 "OneJohn$Now" "years" "I" ∈ BW := bw_wsL_law_r4 _ (List.mem_of_getElem? (i := 11) rfl)
theorem mw84 : Cond.methodLink RX8 32 yX3_init ∈ BW := bw_wsL_law_r4 _ (List.mem_of_getElem? (i := 12) rfl)
theorem mw85 : Cond.instanceMethod yX3_init ∈ BW := bw_wsL_law_r4 _ (List.mem_of_getElem? (i := 13) rfl)
theorem mw86 : Cond.code yX3_init cX3_init 2 none ∈ BW := bw_wsL_law_r4 _ (List.mem_of_getElem? (i := 14) rfl)
theorem mw87 : Cond.methodLink RX3 3 objectInit ∈ BW := bw_wsL_law_r4 _ (List.mem_of_getElem? (i := 15) rfl)
theorem mw88 : Cond.classLink RX3 9 RX2 ∈ BW := bw_wsL_law_r4 _ (List.mem_of_getElem? (i := 16) rfl)
theorem mw89 : Cond.fieldLink RX3 11 "OneJohn$Past" "rows" "[LOneJohn$Now;" ∈ BW := bw_wsL_law_r4 _ (List.mem_of_getElem? (i := 17) rfl)
theorem mw90 : Cond.fieldLink RX3 17 "OneJohn$Past" "next" "I" ∈ BW := bw_wsL_law_r4 _ (List.mem_of_getElem? (i := 18) rfl)
theorem mw91 : Cond.fieldLink RX3 21 "OneJohn$Past" "size" "I" ∈ BW := bw_wsL_law_r4 _ (List.mem_of_getElem? (i := 19) rfl)
theorem mw92 : Cond.instanceMethod yX0_init ∈ BW := bw_wsL_law_r4 _ (List.mem_of_getElem? (i := 20) rfl)
theorem mw93 : Cond.code yX0_init cX0_init 1 none ∈ BW := bw_wsL_law_r4 _ (List.mem_of_getElem? (i := 21) rfl)
theorem mw94 : Cond.methodLink RX0 3 objectInit ∈ BW := bw_wsL_law_r4 _ (List.mem_of_getElem? (i := 22) rfl)
theorem mw95 : Cond.fieldLink RX0 9 "OneJohn$Claims" "subjects" "[I" ∈ BW := bw_wsL_law_r4 _ (List.mem_of_getElem? (i := 23) rfl)
theorem mw96 : Cond.fieldLink RX0 15 "OneJohn$Claims" "answers" "[I" ∈ BW := bw_wsL_law_r5 _ (List.mem_of_getElem? (i := 0) rfl)
theorem mw97 : Cond.fieldLink RX0 18 "OneJohn$Claims" "size" "I" ∈ BW := bw_wsL_law_r5 _ (List.mem_of_getElem? (i := 1) rfl)
theorem mw98 : Cond.instanceMethod yX5_init ∈ BW := bw_wsL_law_r5 _ (List.mem_of_getElem? (i := 2) rfl)
theorem mw99 : Cond.code yX5_init cX5_init 1 none ∈ BW := bw_wsL_law_r5 _ (List.mem_of_getElem? (i := 3) rfl)
theorem mw100 : Cond.methodLink RX5 3 objectInit ∈ BW := bw_wsL_law_r5 _ (List.mem_of_getElem? (i := 4) rfl)
theorem mw101 : Cond.fieldLink RX5 9 "OneJohn$Renaming" "way" "[I" ∈ BW := bw_wsL_law_r5 _ (List.mem_of_getElem? (i := 5) rfl)
theorem mw102 : Cond.fieldLink RX5 15 "OneJohn$Renaming" "best" "[I" ∈ BW := bw_wsL_law_r5 _ (List.mem_of_getElem? (i := 6) rfl)
theorem mw103 : Cond.fieldLink RX5 18 "OneJohn$Renaming" "fewest" "I" ∈ BW := bw_wsL_law_r5 _ (List.mem_of_getElem? (i := 7) rfl)
theorem mw104 : Cond.instanceMethod yX7_init ∈ BW := bw_wsL_law_r5 _ (List.mem_of_getElem? (i := 8) rfl)
theorem mw105 : Cond.code yX7_init cX7_init 1 none ∈ BW := bw_wsL_law_r5 _ (List.mem_of_getElem? (i := 9) rfl)
theorem mw106 : Cond.methodLink RX7 3 objectInit ∈ BW := bw_wsL_law_r5 _ (List.mem_of_getElem? (i := 10) rfl)
theorem mw107 : Cond.fieldLink RX7 9 "OneJohn$Wedding" "way" "[I" ∈ BW := bw_wsL_law_r5 _ (List.mem_of_getElem? (i := 11) rfl)
theorem mw108 : Cond.fieldLink RX7 15 "OneJohn$Wedding" "best" "[I" ∈ BW := bw_wsL_law_r5 _ (List.mem_of_getElem? (i := 12) rfl)
theorem mw109 : Cond.fieldLink RX7 18 "OneJohn$Wedding" "most" "I" ∈ BW := bw_wsL_law_r5 _ (List.mem_of_getElem? (i := 13) rfl)
theorem mw110 : Cond.methodLink RL 12 yX9_init ∈ BW := bw_wsL_law_r5 _ (List.mem_of_getElem? (i := 14) rfl)
theorem mw111 : Cond.instanceMethod yX9_init ∈ BW := bw_wsL_law_r5 _ (List.mem_of_getElem? (i := 15) rfl)
theorem mw112 : Cond.code yX9_init cX9_init 1 none ∈ BW := bw_wsL_law_r5 _ (List.mem_of_getElem? (i := 16) rfl)
theorem mw113 : Cond.methodLink RX9 1 objectInit ∈ BW := bw_wsL_law_r5 _ (List.mem_of_getElem? (i := 17) rfl)
theorem mw114 : Cond.fieldLink RX9 7 "OneJohnModel" "text" "[I" ∈ BW := bw_wsL_law_r5 _ (List.mem_of_getElem? (i := 18) rfl)
theorem mw115 : Cond.fieldLink RX9 13 "OneJohnModel" "many" "[I" ∈ BW := bw_wsL_law_r5 _ (List.mem_of_getElem? (i := 19) rfl)
theorem mw116 : Cond.fieldLink RX9 16 "OneJohnModel" "name" "[I" ∈ BW := bw_wsL_law_r5 _ (List.mem_of_getElem? (i := 20) rfl)
theorem mw117 : Cond.fieldLink RX9 19 "OneJohnModel" "wealth" "[I" ∈ BW := bw_wsL_law_r5 _ (List.mem_of_getElem? (i := 21) rfl)
theorem mw118 : Cond.fieldLink RX9 22 "OneJohnModel" "bills" "[I" ∈ BW := bw_wsL_law_r5 _ (List.mem_of_getElem? (i := 22) rfl)
theorem mw119 : Cond.fieldLink RX9 25 "OneJohnModel" "quarrel" "[I" ∈ BW := bw_wsL_law_r5 _ (List.mem_of_getElem? (i := 23) rfl)
theorem mw120 : Cond.fieldLink RX9 28 "OneJohnModel" "s" "[I" ∈ BW := bw_wsL_law_r6 _ (List.mem_of_getElem? (i := 0) rfl)
theorem mw121 : Cond.fieldLink RX9 31 "OneJohnModel" "w" "[I" ∈ BW := bw_wsL_law_r6 _ (List.mem_of_getElem? (i := 1) rfl)
theorem mw122 : Cond.fieldLink RX9 34 "OneJohnModel" "kept" "[I" ∈ BW := bw_wsL_law_r6 _ (List.mem_of_getElem? (i := 2) rfl)
theorem mw123 : Cond.fieldLink RX9 37 "OneJohnModel" "isKept" "[Z" ∈ BW := bw_wsL_law_r6 _ (List.mem_of_getElem? (i := 3) rfl)
theorem mw124 : Cond.fieldLink RX9 41 "OneJohnModel" "undos" "[I" ∈ BW := bw_wsL_law_r6 _ (List.mem_of_getElem? (i := 4) rfl)
theorem mw125 : Cond.fieldLink RX9 44 "OneJohnModel" "toldOf" "[I" ∈ BW := bw_wsL_law_r6 _ (List.mem_of_getElem? (i := 5) rfl)
theorem mw126 : Cond.fieldLink RX9 47 "OneJohnModel" "toldIs" "[I" ∈ BW := bw_wsL_law_r6 _ (List.mem_of_getElem? (i := 6) rfl)
theorem mw127 : Cond.fieldLink RX9 50 "OneJohnModel" "recordOf" "[I" ∈ BW := bw_wsL_law_r6 _ (List.mem_of_getElem? (i := 7) rfl)
theorem mw128 : Cond.fieldLink RX9 53 "OneJohnModel" "recordIs" "[I" ∈ BW := bw_wsL_law_r6 _ (List.mem_of_getElem? (i := 8) rfl)
theorem mw129 : Cond.fieldLink RX9 56 "OneJohnModel" "best" "[I" ∈ BW := bw_wsL_law_r6 _ (List.mem_of_getElem? (i := 9) rfl)
theorem mw130 : Cond.fieldLink RX9 59 "OneJohnModel" "twos" "[I" ∈ BW := bw_wsL_law_r6 _ (List.mem_of_getElem? (i := 10) rfl)
theorem mw131 : Cond.methodLink RL 13 yX8_type ∈ BW := bw_wsL_law_r6 _ (List.mem_of_getElem? (i := 11) rfl)
theorem mw132 : Cond.instanceMethod yX8_type ∈ BW := bw_wsL_law_r6 _ (List.mem_of_getElem? (i := 12) rfl)
theorem mw133 : Cond.selects RX8 yX8_type yX8_type ∈ BW := bw_wsL_law_r6 _ (List.mem_of_getElem? (i := 13) rfl)
theorem mw134 : Cond.code yX8_type cX8_type 2 (some .int) ∈ BW := bw_wsL_law_r6 _ (List.mem_of_getElem? (i := 14) rfl)
theorem mw135 : Cond.fieldLink RX8 80 "OneJohn$Text" "length" "I" ∈ BW := bw_wsL_law_r6 _ (List.mem_of_getElem? (i := 15) rfl)
theorem mw136 : Cond.fieldLink RX8 84 "OneJohn$Text" "letters" "[I" ∈ BW := bw_wsL_law_r6 _ (List.mem_of_getElem? (i := 16) rfl)
theorem mw137 : Cond.methodLink RX8 76 yX8_within ∈ BW := bw_wsL_law_r6 _ (List.mem_of_getElem? (i := 17) rfl)
theorem mw138 : Cond.static yX8_within ∈ BW := bw_wsL_law_r6 _ (List.mem_of_getElem? (i := 18) rfl)
theorem mw139 : Cond.code yX8_within cX8_within 3 (some .boolean) ∈ BW := bw_wsL_law_r6 _ (List.mem_of_getElem? (i := 19) rfl)
theorem mw140 : Cond.methodLink RL 17 yX9_type ∈ BW := bw_wsL_law_r6 _ (List.mem_of_getElem? (i := 20) rfl)
theorem mw141 : Cond.instanceMethod yX9_type ∈ BW := bw_wsL_law_r6 _ (List.mem_of_getElem? (i := 21) rfl)
theorem mw142 : Cond.selects RX9 yX9_type yX9_type ∈ BW := bw_wsL_law_r6 _ (List.mem_of_getElem? (i := 22) rfl)
theorem mw143 : Cond.code yX9_type cX9_type 2 (some .int) ∈ BW := bw_wsL_law_r6 _ (List.mem_of_getElem? (i := 23) rfl)
theorem mw144 : Cond.fieldLink RX9 62 "OneJohnModel" "thrown" "I" ∈ BW := bw_wsL_law_r7 _ (List.mem_of_getElem? (i := 0) rfl)
theorem mw145 : Cond.fieldLink RX9 70 "OneJohnModel" "typed" "I" ∈ BW := bw_wsL_law_r7 _ (List.mem_of_getElem? (i := 1) rfl)
theorem mw146 : Cond.methodLink RX9 66 yX9_in ∈ BW := bw_wsL_law_r7 _ (List.mem_of_getElem? (i := 2) rfl)
theorem mw147 : Cond.static yX9_in ∈ BW := bw_wsL_law_r7 _ (List.mem_of_getElem? (i := 3) rfl)
theorem mw148 : Cond.code yX9_in cX9_in 3 (some .boolean) ∈ BW := bw_wsL_law_r7 _ (List.mem_of_getElem? (i := 4) rfl)
theorem mw149 : Cond.methodLink RL 18 yX8_clear ∈ BW := bw_wsL_law_r7 _ (List.mem_of_getElem? (i := 5) rfl)
theorem mw150 : Cond.instanceMethod yX8_clear ∈ BW := bw_wsL_law_r7 _ (List.mem_of_getElem? (i := 6) rfl)
theorem mw151 : Cond.selects RX8 yX8_clear yX8_clear ∈ BW := bw_wsL_law_r7 _ (List.mem_of_getElem? (i := 7) rfl)
theorem mw152 : Cond.code yX8_clear cX8_clear 2 (some .int) ∈ BW := bw_wsL_law_r7 _ (List.mem_of_getElem? (i := 8) rfl)
theorem mw153 : Cond.methodLink RL 22 yX9_clear ∈ BW := bw_wsL_law_r7 _ (List.mem_of_getElem? (i := 9) rfl)
theorem mw154 : Cond.instanceMethod yX9_clear ∈ BW := bw_wsL_law_r7 _ (List.mem_of_getElem? (i := 10) rfl)
theorem mw155 : Cond.selects RX9 yX9_clear yX9_clear ∈ BW := bw_wsL_law_r7 _ (List.mem_of_getElem? (i := 11) rfl)
theorem mw156 : Cond.code yX9_clear cX9_clear 2 (some .int) ∈ BW := bw_wsL_law_r7 _ (List.mem_of_getElem? (i := 12) rfl)
theorem mw157 : Cond.methodLink RL 23 yX8_republic ∈ BW := bw_wsL_law_r7 _ (List.mem_of_getElem? (i := 13) rfl)
theorem mw158 : Cond.instanceMethod yX8_republic ∈ BW := bw_wsL_law_r7 _ (List.mem_of_getElem? (i := 14) rfl)
theorem mw159 : Cond.selects RX8 yX8_republic yX8_republic ∈ BW := bw_wsL_law_r7 _ (List.mem_of_getElem? (i := 15) rfl)
theorem mw160 : Cond.code yX8_republic cX8_republic 3 (some .int) ∈ BW := bw_wsL_law_r7 _ (List.mem_of_getElem? (i := 16) rfl)
theorem mw161 : Cond.fieldLink RX8 92 "OneJohn$Reader" "draft" "LOneJohn$Land;" ∈ BW := bw_wsL_law_r7 _ (List.mem_of_getElem? (i := 17) rfl)
theorem mw162 : Cond.fieldLink RX8 99 "OneJohn$Past" "size" "I" ∈ BW := bw_wsL_law_r7 _ (List.mem_of_getElem? (i := 18) rfl)
theorem mw163 : Cond.fieldLink RX8 102 "OneJohn$Claims" "size" "I" ∈ BW := bw_wsL_law_r7 _ (List.mem_of_getElem? (i := 19) rfl)
theorem mw164 : Cond.methodLink RX8 88 yX4_read ∈ BW := bw_wsL_law_r7 _ (List.mem_of_getElem? (i := 20) rfl)
theorem mw165 : Cond.instanceMethod yX4_read ∈ BW := bw_wsL_law_r7 _ (List.mem_of_getElem? (i := 21) rfl)
theorem mw166 : Cond.selects RX4 yX4_read yX4_read ∈ BW := bw_wsL_law_r7 _ (List.mem_of_getElem? (i := 22) rfl)
theorem mw167 : Cond.code yX4_read cX4_read 3 (some .int) ∈ BW := bw_wsL_law_r7 _ (List.mem_of_getElem? (i := 23) rfl)
theorem mw168 : Cond.methodLink RX4 35 yX1_empty ∈ BW := bw_wsL_law_r8 _ (List.mem_of_getElem? (i := 0) rfl)
theorem mw169 : Cond.instanceMethod yX1_empty ∈ BW := bw_wsL_law_r8 _ (List.mem_of_getElem? (i := 1) rfl)
theorem mw170 : Cond.selects RX1 yX1_empty yX1_empty ∈ BW := bw_wsL_law_r8 _ (List.mem_of_getElem? (i := 2) rfl)
theorem mw171 : Cond.code yX1_empty cX1_empty 1 none ∈ BW := bw_wsL_law_r8 _ (List.mem_of_getElem? (i := 3) rfl)
theorem mw172 : Cond.fieldLink RX1 35 "OneJohn$Now" "hurt" "I" ∈ BW := bw_wsL_law_r8 _ (List.mem_of_getElem? (i := 4) rfl)
theorem mw173 : Cond.fieldLink RX1 38 "OneJohn$Now" "laws" "I" ∈ BW := bw_wsL_law_r8 _ (List.mem_of_getElem? (i := 5) rfl)
theorem mw174 : Cond.fieldLink RX1 41 "OneJohn$Now" "chest" "I" ∈ BW := bw_wsL_law_r8 _ (List.mem_of_getElem? (i := 6) rfl)
theorem mw175 : Cond.fieldLink RX1 44 "OneJohn$Now" "years" "I" ∈ BW := bw_wsL_law_r8 _ (List.mem_of_getElem? (i := 7) rfl)
theorem mw176 : Cond.methodLink RX4 38 yX4_nextToken ∈ BW := bw_wsL_law_r8 _ (List.mem_of_getElem? (i := 8) rfl)
theorem mw177 : Cond.instanceMethod yX4_nextToken ∈ BW := bw_wsL_law_r8 _ (List.mem_of_getElem? (i := 9) rfl)
theorem mw178 : Cond.selects RX4 yX4_nextToken yX4_nextToken ∈ BW := bw_wsL_law_r8 _ (List.mem_of_getElem? (i := 10) rfl)
theorem mw179 : Cond.code yX4_nextToken cX4_nextToken 2 none ∈ BW := bw_wsL_law_r8 _ (List.mem_of_getElem? (i := 11) rfl)
theorem mw180 : Cond.fieldLink RX4 93 "OneJohn$Text" "length" "I" ∈ BW := bw_wsL_law_r8 _ (List.mem_of_getElem? (i := 12) rfl)
theorem mw181 : Cond.fieldLink RX4 98 "OneJohn$Text" "letters" "[I" ∈ BW := bw_wsL_law_r8 _ (List.mem_of_getElem? (i := 13) rfl)
theorem mw182 : Cond.methodLink RX4 101 yX4_isDigit ∈ BW := bw_wsL_law_r8 _ (List.mem_of_getElem? (i := 14) rfl)
theorem mw183 : Cond.static yX4_isDigit ∈ BW := bw_wsL_law_r8 _ (List.mem_of_getElem? (i := 15) rfl)
theorem mw184 : Cond.code yX4_isDigit cX4_isDigit 1 (some .boolean) ∈ BW := bw_wsL_law_r8 _ (List.mem_of_getElem? (i := 16) rfl)
theorem mw185 : Cond.methodLink RX4 105 yX4_takeNumber ∈ BW := bw_wsL_law_r8 _ (List.mem_of_getElem? (i := 17) rfl)
theorem mw186 : Cond.instanceMethod yX4_takeNumber ∈ BW := bw_wsL_law_r8 _ (List.mem_of_getElem? (i := 18) rfl)
theorem mw187 : Cond.selects RX4 yX4_takeNumber yX4_takeNumber ∈ BW := bw_wsL_law_r8 _ (List.mem_of_getElem? (i := 19) rfl)
theorem mw188 : Cond.code yX4_takeNumber cX4_takeNumber 4 none ∈ BW := bw_wsL_law_r8 _ (List.mem_of_getElem? (i := 20) rfl)
theorem mw189 : Cond.methodLink RX4 42 yX4_readItem ∈ BW := bw_wsL_law_r8 _ (List.mem_of_getElem? (i := 21) rfl)
theorem mw190 : Cond.instanceMethod yX4_readItem ∈ BW := bw_wsL_law_r8 _ (List.mem_of_getElem? (i := 22) rfl)
theorem mw191 : Cond.selects RX4 yX4_readItem yX4_readItem ∈ BW := bw_wsL_law_r8 _ (List.mem_of_getElem? (i := 23) rfl)
theorem mw192 : Cond.code yX4_readItem cX4_readItem 3 (some .boolean) ∈ BW := bw_wsL_law_r9 _ (List.mem_of_getElem? (i := 0) rfl)
theorem mw193 : Cond.fieldLink RX4 53 "OneJohn$Land" "people" "I" ∈ BW := bw_wsL_law_r9 _ (List.mem_of_getElem? (i := 1) rfl)
theorem mw194 : Cond.methodLink RX4 46 yX4_readNames ∈ BW := bw_wsL_law_r9 _ (List.mem_of_getElem? (i := 2) rfl)
theorem mw195 : Cond.instanceMethod yX4_readNames ∈ BW := bw_wsL_law_r9 _ (List.mem_of_getElem? (i := 3) rfl)
theorem mw196 : Cond.selects RX4 yX4_readNames yX4_readNames ∈ BW := bw_wsL_law_r9 _ (List.mem_of_getElem? (i := 4) rfl)
theorem mw197 : Cond.code yX4_readNames cX4_readNames 2 (some .boolean) ∈ BW := bw_wsL_law_r9 _ (List.mem_of_getElem? (i := 5) rfl)
theorem mw198 : Cond.fieldLink RX4 69 "OneJohn$Land" "nameCount" "I" ∈ BW := bw_wsL_law_r9 _ (List.mem_of_getElem? (i := 6) rfl)
theorem mw199 : Cond.methodLink RX4 65 yX4_readNumber ∈ BW := bw_wsL_law_r9 _ (List.mem_of_getElem? (i := 7) rfl)
theorem mw200 : Cond.instanceMethod yX4_readNumber ∈ BW := bw_wsL_law_r9 _ (List.mem_of_getElem? (i := 8) rfl)
theorem mw201 : Cond.selects RX4 yX4_readNumber yX4_readNumber ∈ BW := bw_wsL_law_r9 _ (List.mem_of_getElem? (i := 9) rfl)
theorem mw202 : Cond.code yX4_readNumber cX4_readNumber 4 (some .boolean) ∈ BW := bw_wsL_law_r9 _ (List.mem_of_getElem? (i := 10) rfl)
theorem mw203 : Cond.methodLink RX4 50 yX4_isEnded ∈ BW := bw_wsL_law_r9 _ (List.mem_of_getElem? (i := 11) rfl)
theorem mw204 : Cond.instanceMethod yX4_isEnded ∈ BW := bw_wsL_law_r9 _ (List.mem_of_getElem? (i := 12) rfl)
theorem mw205 : Cond.selects RX4 yX4_isEnded yX4_isEnded ∈ BW := bw_wsL_law_r9 _ (List.mem_of_getElem? (i := 13) rfl)
theorem mw206 : Cond.code yX4_isEnded cX4_isEnded 2 (some .boolean) ∈ BW := bw_wsL_law_r9 _ (List.mem_of_getElem? (i := 14) rfl)
theorem mw207 : Cond.methodLink RX4 56 yX4_readPerson ∈ BW := bw_wsL_law_r9 _ (List.mem_of_getElem? (i := 15) rfl)
theorem mw208 : Cond.instanceMethod yX4_readPerson ∈ BW := bw_wsL_law_r9 _ (List.mem_of_getElem? (i := 16) rfl)
theorem mw209 : Cond.selects RX4 yX4_readPerson yX4_readPerson ∈ BW := bw_wsL_law_r9 _ (List.mem_of_getElem? (i := 17) rfl)
theorem mw210 : Cond.code yX4_readPerson cX4_readPerson 4 (some .boolean) ∈ BW := bw_wsL_law_r9 _ (List.mem_of_getElem? (i := 18) rfl)
theorem mw211 : Cond.methodLink RX4 72 yX1_addPerson ∈ BW := bw_wsL_law_r9 _ (List.mem_of_getElem? (i := 19) rfl)
theorem mw212 : Cond.instanceMethod yX1_addPerson ∈ BW := bw_wsL_law_r9 _ (List.mem_of_getElem? (i := 20) rfl)
theorem mw213 : Cond.selects RX1 yX1_addPerson yX1_addPerson ∈ BW := bw_wsL_law_r9 _ (List.mem_of_getElem? (i := 21) rfl)
theorem mw214 : Cond.code yX1_addPerson cX1_addPerson 4 none ∈ BW := bw_wsL_law_r9 _ (List.mem_of_getElem? (i := 22) rfl)
theorem mw215 : Cond.fieldLink RX1 57 "OneJohn$Now" "names" "[I" ∈ BW := bw_wsL_law_r9 _ (List.mem_of_getElem? (i := 23) rfl)
theorem mw216 : Cond.fieldLink RX1 60 "OneJohn$Now" "wealth" "[I" ∈ BW := bw_wsL_law_r10 _ (List.mem_of_getElem? (i := 0) rfl)
theorem mw217 : Cond.fieldLink RX1 63 "OneJohn$Now" "deeds" "[I" ∈ BW := bw_wsL_law_r10 _ (List.mem_of_getElem? (i := 1) rfl)
theorem mw218 : Cond.methodLink RX4 59 yX4_readQuarrel ∈ BW := bw_wsL_law_r10 _ (List.mem_of_getElem? (i := 2) rfl)
theorem mw219 : Cond.instanceMethod yX4_readQuarrel ∈ BW := bw_wsL_law_r10 _ (List.mem_of_getElem? (i := 3) rfl)
theorem mw220 : Cond.selects RX4 yX4_readQuarrel yX4_readQuarrel ∈ BW := bw_wsL_law_r10 _ (List.mem_of_getElem? (i := 4) rfl)
theorem mw221 : Cond.code yX4_readQuarrel cX4_readQuarrel 3 (some .boolean) ∈ BW := bw_wsL_law_r10 _ (List.mem_of_getElem? (i := 5) rfl)
theorem mw222 : Cond.fieldLink RX4 76 "OneJohn$Land" "foes" "[I" ∈ BW := bw_wsL_law_r10 _ (List.mem_of_getElem? (i := 6) rfl)
theorem mw223 : Cond.methodLink RX4 62 yX4_readLaws ∈ BW := bw_wsL_law_r10 _ (List.mem_of_getElem? (i := 7) rfl)
theorem mw224 : Cond.instanceMethod yX4_readLaws ∈ BW := bw_wsL_law_r10 _ (List.mem_of_getElem? (i := 8) rfl)
theorem mw225 : Cond.selects RX4 yX4_readLaws yX4_readLaws ∈ BW := bw_wsL_law_r10 _ (List.mem_of_getElem? (i := 9) rfl)
theorem mw226 : Cond.code yX4_readLaws cX4_readLaws 2 (some .boolean) ∈ BW := bw_wsL_law_r10 _ (List.mem_of_getElem? (i := 10) rfl)
theorem mw227 : Cond.fieldLink RX4 80 "OneJohn$Land" "now" "LOneJohn$Now;" ∈ BW := bw_wsL_law_r10 _ (List.mem_of_getElem? (i := 11) rfl)
theorem mw228 : Cond.fieldLink RX4 84 "OneJohn$Now" "laws" "I" ∈ BW := bw_wsL_law_r10 _ (List.mem_of_getElem? (i := 12) rfl)
theorem mw229 : Cond.methodLink RX8 95 yX1_take ∈ BW := bw_wsL_law_r10 _ (List.mem_of_getElem? (i := 13) rfl)
theorem mw230 : Cond.instanceMethod yX1_take ∈ BW := bw_wsL_law_r10 _ (List.mem_of_getElem? (i := 14) rfl)
theorem mw231 : Cond.selects RX1 yX1_take yX1_take ∈ BW := bw_wsL_law_r10 _ (List.mem_of_getElem? (i := 15) rfl)
theorem mw232 : Cond.code yX1_take cX1_take 2 none ∈ BW := bw_wsL_law_r10 _ (List.mem_of_getElem? (i := 16) rfl)
theorem mw233 : Cond.methodLink RX1 47 arraycopyName ∈ BW := bw_wsL_law_r10 _ (List.mem_of_getElem? (i := 17) rfl)
theorem mw234 : Cond.native arraycopyName ∈ BW := bw_wsL_law_r10 _ (List.mem_of_getElem? (i := 18) rfl)
theorem mw235 : Cond.static arraycopyName ∈ BW := bw_wsL_law_r10 _ (List.mem_of_getElem? (i := 19) rfl)
theorem mw236 : Cond.initialized "java/lang/System" ∈ BW := bw_wsL_law_r10 _ (List.mem_of_getElem? (i := 20) rfl)
theorem mw237 : Cond.methodLink RX1 53 yX2_take ∈ BW := bw_wsL_law_r10 _ (List.mem_of_getElem? (i := 21) rfl)
theorem mw238 : Cond.instanceMethod yX2_take ∈ BW := bw_wsL_law_r10 _ (List.mem_of_getElem? (i := 22) rfl)
theorem mw239 : Cond.selects RX2 yX2_take yX2_take ∈ BW := bw_wsL_law_r10 _ (List.mem_of_getElem? (i := 23) rfl)
theorem mw240 : Cond.code yX2_take cX2_take 2 none ∈ BW := bw_wsL_law_r11 _ (List.mem_of_getElem? (i := 0) rfl)
theorem mw241 : Cond.methodLink RX2 34 arraycopyName ∈ BW := bw_wsL_law_r11 _ (List.mem_of_getElem? (i := 1) rfl)
theorem mw242 : Cond.methodLink RL 26 yX9_republic ∈ BW := bw_wsL_law_r11 _ (List.mem_of_getElem? (i := 2) rfl)
theorem mw243 : Cond.instanceMethod yX9_republic ∈ BW := bw_wsL_law_r11 _ (List.mem_of_getElem? (i := 3) rfl)
theorem mw244 : Cond.selects RX9 yX9_republic yX9_republic ∈ BW := bw_wsL_law_r11 _ (List.mem_of_getElem? (i := 4) rfl)
theorem mw245 : Cond.code yX9_republic cX9_republic 3 (some .int) ∈ BW := bw_wsL_law_r11 _ (List.mem_of_getElem? (i := 5) rfl)
theorem mw246 : Cond.fieldLink RX9 89 "OneJohnModel" "fault" "I" ∈ BW := bw_wsL_law_r11 _ (List.mem_of_getElem? (i := 6) rfl)
theorem mw247 : Cond.fieldLink RX9 73 "OneJohnModel" "next" "I" ∈ BW := bw_wsL_law_r11 _ (List.mem_of_getElem? (i := 7) rfl)
theorem mw248 : Cond.fieldLink RX9 103 "OneJohnModel" "isLawTold" "Z" ∈ BW := bw_wsL_law_r11 _ (List.mem_of_getElem? (i := 8) rfl)
theorem mw249 : Cond.fieldLink RX9 83 "OneJohnModel" "token" "I" ∈ BW := bw_wsL_law_r11 _ (List.mem_of_getElem? (i := 9) rfl)
theorem mw250 : Cond.methodLink RX9 96 yX9_advances ∈ BW := bw_wsL_law_r11 _ (List.mem_of_getElem? (i := 10) rfl)
theorem mw251 : Cond.instanceMethod yX9_advances ∈ BW := bw_wsL_law_r11 _ (List.mem_of_getElem? (i := 11) rfl)
theorem mw252 : Cond.selects RX9 yX9_advances yX9_advances ∈ BW := bw_wsL_law_r11 _ (List.mem_of_getElem? (i := 12) rfl)
theorem mw253 : Cond.code yX9_advances cX9_advances 2 none ∈ BW := bw_wsL_law_r11 _ (List.mem_of_getElem? (i := 13) rfl)
theorem mw254 : Cond.fieldLink RX9 80 "OneJohnModel" "place" "I" ∈ BW := bw_wsL_law_r11 _ (List.mem_of_getElem? (i := 14) rfl)
theorem mw255 : Cond.fieldLink RX9 86 "OneJohnModel" "value" "I" ∈ BW := bw_wsL_law_r11 _ (List.mem_of_getElem? (i := 15) rfl)
theorem mw256 : Cond.methodLink RX9 76 yX9_letterAt ∈ BW := bw_wsL_law_r11 _ (List.mem_of_getElem? (i := 16) rfl)
theorem mw257 : Cond.instanceMethod yX9_letterAt ∈ BW := bw_wsL_law_r11 _ (List.mem_of_getElem? (i := 17) rfl)
theorem mw258 : Cond.selects RX9 yX9_letterAt yX9_letterAt ∈ BW := bw_wsL_law_r11 _ (List.mem_of_getElem? (i := 18) rfl)
theorem mw259 : Cond.code yX9_letterAt cX9_letterAt 2 (some .int) ∈ BW := bw_wsL_law_r11 _ (List.mem_of_getElem? (i := 19) rfl)
theorem mw260 : Cond.methodLink RX9 92 yX9_isWell ∈ BW := bw_wsL_law_r11 _ (List.mem_of_getElem? (i := 20) rfl)
theorem mw261 : Cond.instanceMethod yX9_isWell ∈ BW := bw_wsL_law_r11 _ (List.mem_of_getElem? (i := 21) rfl)
theorem mw262 : Cond.selects RX9 yX9_isWell yX9_isWell ∈ BW := bw_wsL_law_r11 _ (List.mem_of_getElem? (i := 22) rfl)
theorem mw263 : Cond.code yX9_isWell cX9_isWell 1 (some .boolean) ∈ BW := bw_wsL_law_r11 _ (List.mem_of_getElem? (i := 23) rfl)
theorem mw264 : Cond.methodLink RX9 111 yX9_mayBegin ∈ BW := bw_wsL_law_r12 _ (List.mem_of_getElem? (i := 0) rfl)
theorem mw265 : Cond.instanceMethod yX9_mayBegin ∈ BW := bw_wsL_law_r12 _ (List.mem_of_getElem? (i := 1) rfl)
theorem mw266 : Cond.selects RX9 yX9_mayBegin yX9_mayBegin ∈ BW := bw_wsL_law_r12 _ (List.mem_of_getElem? (i := 2) rfl)
theorem mw267 : Cond.code yX9_mayBegin cX9_mayBegin 2 (some .boolean) ∈ BW := bw_wsL_law_r12 _ (List.mem_of_getElem? (i := 3) rfl)
theorem mw268 : Cond.methodLink RX9 99 yX9_takes ∈ BW := bw_wsL_law_r12 _ (List.mem_of_getElem? (i := 4) rfl)
theorem mw269 : Cond.instanceMethod yX9_takes ∈ BW := bw_wsL_law_r12 _ (List.mem_of_getElem? (i := 5) rfl)
theorem mw270 : Cond.selects RX9 yX9_takes yX9_takes ∈ BW := bw_wsL_law_r12 _ (List.mem_of_getElem? (i := 6) rfl)
theorem mw271 : Cond.code yX9_takes cX9_takes 3 (some .int) ∈ BW := bw_wsL_law_r12 _ (List.mem_of_getElem? (i := 7) rfl)
theorem mw272 : Cond.methodLink RX9 115 yX9_readsItem ∈ BW := bw_wsL_law_r12 _ (List.mem_of_getElem? (i := 8) rfl)
theorem mw273 : Cond.instanceMethod yX9_readsItem ∈ BW := bw_wsL_law_r12 _ (List.mem_of_getElem? (i := 9) rfl)
theorem mw274 : Cond.selects RX9 yX9_readsItem yX9_readsItem ∈ BW := bw_wsL_law_r12 _ (List.mem_of_getElem? (i := 10) rfl)
theorem mw275 : Cond.code yX9_readsItem cX9_readsItem 4 none ∈ BW := bw_wsL_law_r12 _ (List.mem_of_getElem? (i := 11) rfl)
theorem mw276 : Cond.methodLink RX9 107 yX9_number ∈ BW := bw_wsL_law_r12 _ (List.mem_of_getElem? (i := 12) rfl)
theorem mw277 : Cond.instanceMethod yX9_number ∈ BW := bw_wsL_law_r12 _ (List.mem_of_getElem? (i := 13) rfl)
theorem mw278 : Cond.selects RX9 yX9_number yX9_number ∈ BW := bw_wsL_law_r12 _ (List.mem_of_getElem? (i := 14) rfl)
theorem mw279 : Cond.code yX9_number cX9_number 3 (some .int) ∈ BW := bw_wsL_law_r12 _ (List.mem_of_getElem? (i := 15) rfl)
theorem mw280 : Cond.methodLink RX9 119 yX9_settles ∈ BW := bw_wsL_law_r12 _ (List.mem_of_getElem? (i := 16) rfl)
theorem mw281 : Cond.instanceMethod yX9_settles ∈ BW := bw_wsL_law_r12 _ (List.mem_of_getElem? (i := 17) rfl)
theorem mw282 : Cond.selects RX9 yX9_settles yX9_settles ∈ BW := bw_wsL_law_r12 _ (List.mem_of_getElem? (i := 18) rfl)
theorem mw283 : Cond.code yX9_settles cX9_settles 2 none ∈ BW := bw_wsL_law_r12 _ (List.mem_of_getElem? (i := 19) rfl)
theorem mw284 : Cond.fieldLink RX9 122 "OneJohnModel" "toldMany" "I" ∈ BW := bw_wsL_law_r12 _ (List.mem_of_getElem? (i := 20) rfl)
theorem mw285 : Cond.fieldLink RX9 125 "OneJohnModel" "recordMany" "I" ∈ BW := bw_wsL_law_r12 _ (List.mem_of_getElem? (i := 21) rfl)
theorem mw286 : Cond.fieldLink RX9 128 "OneJohnModel" "undoMany" "I" ∈ BW := bw_wsL_law_r12 _ (List.mem_of_getElem? (i := 22) rfl)
theorem mw287 : Cond.methodLink RL 27 yX8_person ∈ BW := bw_wsL_law_r12 _ (List.mem_of_getElem? (i := 23) rfl)
theorem mw288 : Cond.instanceMethod yX8_person ∈ BW := bw_wsL_law_r13 _ (List.mem_of_getElem? (i := 0) rfl)
theorem mw289 : Cond.selects RX8 yX8_person yX8_person ∈ BW := bw_wsL_law_r13 _ (List.mem_of_getElem? (i := 1) rfl)
theorem mw290 : Cond.code yX8_person cX8_person 3 (some .int) ∈ BW := bw_wsL_law_r13 _ (List.mem_of_getElem? (i := 2) rfl)
theorem mw291 : Cond.fieldLink RX8 107 "OneJohn$Land" "now" "LOneJohn$Now;" ∈ BW := bw_wsL_law_r13 _ (List.mem_of_getElem? (i := 3) rfl)
theorem mw292 : Cond.fieldLink RX8 111 "OneJohn$Now" "names" "[I" ∈ BW := bw_wsL_law_r13 _ (List.mem_of_getElem? (i := 4) rfl)
theorem mw293 : Cond.fieldLink RX8 114 "OneJohn$Now" "wealth" "[I" ∈ BW := bw_wsL_law_r13 _ (List.mem_of_getElem? (i := 5) rfl)
theorem mw294 : Cond.fieldLink RX8 117 "OneJohn$Land" "favours" "[I" ∈ BW := bw_wsL_law_r13 _ (List.mem_of_getElem? (i := 6) rfl)
theorem mw295 : Cond.fieldLink RX8 120 "OneJohn$Now" "hurt" "I" ∈ BW := bw_wsL_law_r13 _ (List.mem_of_getElem? (i := 7) rfl)
theorem mw296 : Cond.fieldLink RX8 131 "OneJohn$Now" "deeds" "[I" ∈ BW := bw_wsL_law_r13 _ (List.mem_of_getElem? (i := 8) rfl)
theorem mw297 : Cond.methodLink RX8 103 yX1_hasPerson ∈ BW := bw_wsL_law_r13 _ (List.mem_of_getElem? (i := 9) rfl)
theorem mw298 : Cond.instanceMethod yX1_hasPerson ∈ BW := bw_wsL_law_r13 _ (List.mem_of_getElem? (i := 10) rfl)
theorem mw299 : Cond.selects RX1 yX1_hasPerson yX1_hasPerson ∈ BW := bw_wsL_law_r13 _ (List.mem_of_getElem? (i := 11) rfl)
theorem mw300 : Cond.code yX1_hasPerson cX1_hasPerson 2 (some .boolean) ∈ BW := bw_wsL_law_r13 _ (List.mem_of_getElem? (i := 12) rfl)
theorem mw301 : Cond.methodLink RX8 123 yX8_bit ∈ BW := bw_wsL_law_r13 _ (List.mem_of_getElem? (i := 13) rfl)
theorem mw302 : Cond.static yX8_bit ∈ BW := bw_wsL_law_r13 _ (List.mem_of_getElem? (i := 14) rfl)
theorem mw303 : Cond.code yX8_bit cX8_bit 2 (some .int) ∈ BW := bw_wsL_law_r13 _ (List.mem_of_getElem? (i := 15) rfl)
theorem mw304 : Cond.methodLink RX8 127 yX1_limping ∈ BW := bw_wsL_law_r13 _ (List.mem_of_getElem? (i := 16) rfl)
theorem mw305 : Cond.instanceMethod yX1_limping ∈ BW := bw_wsL_law_r13 _ (List.mem_of_getElem? (i := 17) rfl)
theorem mw306 : Cond.selects RX1 yX1_limping yX1_limping ∈ BW := bw_wsL_law_r13 _ (List.mem_of_getElem? (i := 18) rfl)
theorem mw307 : Cond.code yX1_limping cX1_limping 1 (some .int) ∈ BW := bw_wsL_law_r13 _ (List.mem_of_getElem? (i := 19) rfl)
theorem mw308 : Cond.methodLink RX1 74 yX1_limpingIf ∈ BW := bw_wsL_law_r13 _ (List.mem_of_getElem? (i := 20) rfl)
theorem mw309 : Cond.instanceMethod yX1_limpingIf ∈ BW := bw_wsL_law_r13 _ (List.mem_of_getElem? (i := 21) rfl)
theorem mw310 : Cond.selects RX1 yX1_limpingIf yX1_limpingIf ∈ BW := bw_wsL_law_r13 _ (List.mem_of_getElem? (i := 22) rfl)
theorem mw311 : Cond.code yX1_limpingIf cX1_limpingIf 6 (some .int) ∈ BW := bw_wsL_law_r13 _ (List.mem_of_getElem? (i := 23) rfl)
theorem mw312 : Cond.methodLink RX1 77 yX1_bearers ∈ BW := bw_wsL_law_r14 _ (List.mem_of_getElem? (i := 0) rfl)
theorem mw313 : Cond.instanceMethod yX1_bearers ∈ BW := bw_wsL_law_r14 _ (List.mem_of_getElem? (i := 1) rfl)
theorem mw314 : Cond.selects RX1 yX1_bearers yX1_bearers ∈ BW := bw_wsL_law_r14 _ (List.mem_of_getElem? (i := 2) rfl)
theorem mw315 : Cond.code yX1_bearers cX1_bearers 4 (some .int) ∈ BW := bw_wsL_law_r14 _ (List.mem_of_getElem? (i := 3) rfl)
theorem mw316 : Cond.methodLink RX8 134 yX1_fame ∈ BW := bw_wsL_law_r14 _ (List.mem_of_getElem? (i := 4) rfl)
theorem mw317 : Cond.instanceMethod yX1_fame ∈ BW := bw_wsL_law_r14 _ (List.mem_of_getElem? (i := 5) rfl)
theorem mw318 : Cond.selects RX1 yX1_fame yX1_fame ∈ BW := bw_wsL_law_r14 _ (List.mem_of_getElem? (i := 6) rfl)
theorem mw319 : Cond.code yX1_fame cX1_fame 4 (some .int) ∈ BW := bw_wsL_law_r14 _ (List.mem_of_getElem? (i := 7) rfl)
theorem mw320 : Cond.methodLink RX8 138 yX1_tax ∈ BW := bw_wsL_law_r14 _ (List.mem_of_getElem? (i := 8) rfl)
theorem mw321 : Cond.instanceMethod yX1_tax ∈ BW := bw_wsL_law_r14 _ (List.mem_of_getElem? (i := 9) rfl)
theorem mw322 : Cond.selects RX1 yX1_tax yX1_tax ∈ BW := bw_wsL_law_r14 _ (List.mem_of_getElem? (i := 10) rfl)
theorem mw323 : Cond.code yX1_tax cX1_tax 2 (some .int) ∈ BW := bw_wsL_law_r14 _ (List.mem_of_getElem? (i := 11) rfl)
theorem mw324 : Cond.methodLink RX1 81 yX1_taxIfNamed ∈ BW := bw_wsL_law_r14 _ (List.mem_of_getElem? (i := 12) rfl)
theorem mw325 : Cond.instanceMethod yX1_taxIfNamed ∈ BW := bw_wsL_law_r14 _ (List.mem_of_getElem? (i := 13) rfl)
theorem mw326 : Cond.selects RX1 yX1_taxIfNamed yX1_taxIfNamed ∈ BW := bw_wsL_law_r14 _ (List.mem_of_getElem? (i := 14) rfl)
theorem mw327 : Cond.code yX1_taxIfNamed cX1_taxIfNamed 5 (some .int) ∈ BW := bw_wsL_law_r14 _ (List.mem_of_getElem? (i := 15) rfl)
theorem mw328 : Cond.methodLink RX1 89 Lib.Math.max.name ∈ BW := bw_wsL_law_r14 _ (List.mem_of_getElem? (i := 16) rfl)
theorem mw329 : Cond.static Lib.Math.max.name ∈ BW := bw_wsL_law_r14 _ (List.mem_of_getElem? (i := 17) rfl)
theorem mw330 : Cond.initialized "java/lang/Math" ∈ BW := bw_wsL_law_r14 _ (List.mem_of_getElem? (i := 18) rfl)
theorem mw331 : Cond.code Lib.Math.max.name Lib.Math.max.code 2 (some .int) ∈ BW := bw_wsL_law_r14 _ (List.mem_of_getElem? (i := 19) rfl)
theorem mw332 : Cond.methodLink RX1 84 yJ6_bitCount_0f7a4 ∈ BW := bw_wsL_law_r14 _ (List.mem_of_getElem? (i := 20) rfl)
theorem mw333 : Cond.static yJ6_bitCount_0f7a4 ∈ BW := bw_wsL_law_r14 _ (List.mem_of_getElem? (i := 21) rfl)
theorem mw334 : Cond.initialized RJ6 ∈ BW := bw_wsL_law_r14 _ (List.mem_of_getElem? (i := 22) rfl)
theorem mw335 : Cond.code yJ6_bitCount_0f7a4 cJ6_bitCount_0f7a4 1 (some .int) ∈ BW := bw_wsL_law_r14 _ (List.mem_of_getElem? (i := 23) rfl)
theorem mw336 : Cond.constant RJ6 265 (1431655765) ∈ BW := bw_wsL_law_r15 _ (List.mem_of_getElem? (i := 0) rfl)
theorem mw337 : Cond.constant RJ6 266 (858993459) ∈ BW := bw_wsL_law_r15 _ (List.mem_of_getElem? (i := 1) rfl)
theorem mw338 : Cond.constant RJ6 267 (252645135) ∈ BW := bw_wsL_law_r15 _ (List.mem_of_getElem? (i := 2) rfl)
theorem mw339 : Cond.methodLink RX1 94 yX1_wealthOf ∈ BW := bw_wsL_law_r15 _ (List.mem_of_getElem? (i := 3) rfl)
theorem mw340 : Cond.instanceMethod yX1_wealthOf ∈ BW := bw_wsL_law_r15 _ (List.mem_of_getElem? (i := 4) rfl)
theorem mw341 : Cond.selects RX1 yX1_wealthOf yX1_wealthOf ∈ BW := bw_wsL_law_r15 _ (List.mem_of_getElem? (i := 5) rfl)
theorem mw342 : Cond.code yX1_wealthOf cX1_wealthOf 4 (some .int) ∈ BW := bw_wsL_law_r15 _ (List.mem_of_getElem? (i := 6) rfl)
theorem mw343 : Cond.methodLink RL 31 yX9_person ∈ BW := bw_wsL_law_r15 _ (List.mem_of_getElem? (i := 7) rfl)
theorem mw344 : Cond.instanceMethod yX9_person ∈ BW := bw_wsL_law_r15 _ (List.mem_of_getElem? (i := 8) rfl)
theorem mw345 : Cond.selects RX9 yX9_person yX9_person ∈ BW := bw_wsL_law_r15 _ (List.mem_of_getElem? (i := 9) rfl)
theorem mw346 : Cond.code yX9_person cX9_person 3 (some .int) ∈ BW := bw_wsL_law_r15 _ (List.mem_of_getElem? (i := 10) rfl)
theorem mw347 : Cond.methodLink RX9 153 yX9_isPerson ∈ BW := bw_wsL_law_r15 _ (List.mem_of_getElem? (i := 11) rfl)
theorem mw348 : Cond.instanceMethod yX9_isPerson ∈ BW := bw_wsL_law_r15 _ (List.mem_of_getElem? (i := 12) rfl)
theorem mw349 : Cond.selects RX9 yX9_isPerson yX9_isPerson ∈ BW := bw_wsL_law_r15 _ (List.mem_of_getElem? (i := 13) rfl)
theorem mw350 : Cond.code yX9_isPerson cX9_isPerson 2 (some .boolean) ∈ BW := bw_wsL_law_r15 _ (List.mem_of_getElem? (i := 14) rfl)
theorem mw351 : Cond.methodLink RX9 156 yX9_limps ∈ BW := bw_wsL_law_r15 _ (List.mem_of_getElem? (i := 15) rfl)
theorem mw352 : Cond.instanceMethod yX9_limps ∈ BW := bw_wsL_law_r15 _ (List.mem_of_getElem? (i := 16) rfl)
theorem mw353 : Cond.selects RX9 yX9_limps yX9_limps ∈ BW := bw_wsL_law_r15 _ (List.mem_of_getElem? (i := 17) rfl)
theorem mw354 : Cond.code yX9_limps cX9_limps 4 (some .boolean) ∈ BW := bw_wsL_law_r15 _ (List.mem_of_getElem? (i := 18) rfl)
theorem mw355 : Cond.methodLink RX9 131 yX9_isLaw ∈ BW := bw_wsL_law_r15 _ (List.mem_of_getElem? (i := 19) rfl)
theorem mw356 : Cond.static yX9_isLaw ∈ BW := bw_wsL_law_r15 _ (List.mem_of_getElem? (i := 20) rfl)
theorem mw357 : Cond.code yX9_isLaw cX9_isLaw 2 (some .boolean) ∈ BW := bw_wsL_law_r15 _ (List.mem_of_getElem? (i := 21) rfl)
theorem mw358 : Cond.methodLink RX9 135 yX9_peopleOf ∈ BW := bw_wsL_law_r15 _ (List.mem_of_getElem? (i := 22) rfl)
theorem mw359 : Cond.instanceMethod yX9_peopleOf ∈ BW := bw_wsL_law_r15 _ (List.mem_of_getElem? (i := 23) rfl)
theorem mw360 : Cond.selects RX9 yX9_peopleOf yX9_peopleOf ∈ BW := bw_wsL_law_r16 _ (List.mem_of_getElem? (i := 0) rfl)
theorem mw361 : Cond.code yX9_peopleOf cX9_peopleOf 5 (some .int) ∈ BW := bw_wsL_law_r16 _ (List.mem_of_getElem? (i := 1) rfl)
theorem mw362 : Cond.methodLink RX9 159 yX9_fame ∈ BW := bw_wsL_law_r16 _ (List.mem_of_getElem? (i := 2) rfl)
theorem mw363 : Cond.instanceMethod yX9_fame ∈ BW := bw_wsL_law_r16 _ (List.mem_of_getElem? (i := 3) rfl)
theorem mw364 : Cond.selects RX9 yX9_fame yX9_fame ∈ BW := bw_wsL_law_r16 _ (List.mem_of_getElem? (i := 4) rfl)
theorem mw365 : Cond.code yX9_fame cX9_fame 3 (some .int) ∈ BW := bw_wsL_law_r16 _ (List.mem_of_getElem? (i := 5) rfl)
theorem mw366 : Cond.methodLink RX9 139 yX9_sumOf ∈ BW := bw_wsL_law_r16 _ (List.mem_of_getElem? (i := 6) rfl)
theorem mw367 : Cond.instanceMethod yX9_sumOf ∈ BW := bw_wsL_law_r16 _ (List.mem_of_getElem? (i := 7) rfl)
theorem mw368 : Cond.selects RX9 yX9_sumOf yX9_sumOf ∈ BW := bw_wsL_law_r16 _ (List.mem_of_getElem? (i := 8) rfl)
theorem mw369 : Cond.code yX9_sumOf cX9_sumOf 6 (some .int) ∈ BW := bw_wsL_law_r16 _ (List.mem_of_getElem? (i := 9) rfl)
theorem mw370 : Cond.methodLink RX9 162 yX9_tax ∈ BW := bw_wsL_law_r16 _ (List.mem_of_getElem? (i := 10) rfl)
theorem mw371 : Cond.instanceMethod yX9_tax ∈ BW := bw_wsL_law_r16 _ (List.mem_of_getElem? (i := 11) rfl)
theorem mw372 : Cond.selects RX9 yX9_tax yX9_tax ∈ BW := bw_wsL_law_r16 _ (List.mem_of_getElem? (i := 12) rfl)
theorem mw373 : Cond.code yX9_tax cX9_tax 4 (some .int) ∈ BW := bw_wsL_law_r16 _ (List.mem_of_getElem? (i := 13) rfl)
theorem mw374 : Cond.methodLink RX9 143 yX9_ones ∈ BW := bw_wsL_law_r16 _ (List.mem_of_getElem? (i := 14) rfl)
theorem mw375 : Cond.static yX9_ones ∈ BW := bw_wsL_law_r16 _ (List.mem_of_getElem? (i := 15) rfl)
theorem mw376 : Cond.code yX9_ones cX9_ones 3 (some .int) ∈ BW := bw_wsL_law_r16 _ (List.mem_of_getElem? (i := 16) rfl)
theorem mw377 : Cond.methodLink RL 32 yX8_quarrels ∈ BW := bw_wsL_law_r16 _ (List.mem_of_getElem? (i := 17) rfl)
theorem mw378 : Cond.instanceMethod yX8_quarrels ∈ BW := bw_wsL_law_r16 _ (List.mem_of_getElem? (i := 18) rfl)
theorem mw379 : Cond.selects RX8 yX8_quarrels yX8_quarrels ∈ BW := bw_wsL_law_r16 _ (List.mem_of_getElem? (i := 19) rfl)
theorem mw380 : Cond.code yX8_quarrels cX8_quarrels 2 (some .int) ∈ BW := bw_wsL_law_r16 _ (List.mem_of_getElem? (i := 20) rfl)
theorem mw381 : Cond.fieldLink RX8 141 "OneJohn$Land" "foes" "[I" ∈ BW := bw_wsL_law_r16 _ (List.mem_of_getElem? (i := 21) rfl)
theorem mw382 : Cond.methodLink RL 35 yX9_quarrels ∈ BW := bw_wsL_law_r16 _ (List.mem_of_getElem? (i := 22) rfl)
theorem mw383 : Cond.instanceMethod yX9_quarrels ∈ BW := bw_wsL_law_r16 _ (List.mem_of_getElem? (i := 23) rfl)
theorem mw384 : Cond.selects RX9 yX9_quarrels yX9_quarrels ∈ BW := bw_wsL_law_r17 _ (List.mem_of_getElem? (i := 0) rfl)
theorem mw385 : Cond.code yX9_quarrels cX9_quarrels 2 (some .int) ∈ BW := bw_wsL_law_r17 _ (List.mem_of_getElem? (i := 1) rfl)
theorem mw386 : Cond.methodLink RL 36 yX8_name ∈ BW := bw_wsL_law_r17 _ (List.mem_of_getElem? (i := 2) rfl)
theorem mw387 : Cond.instanceMethod yX8_name ∈ BW := bw_wsL_law_r17 _ (List.mem_of_getElem? (i := 3) rfl)
theorem mw388 : Cond.selects RX8 yX8_name yX8_name ∈ BW := bw_wsL_law_r17 _ (List.mem_of_getElem? (i := 4) rfl)
theorem mw389 : Cond.code yX8_name cX8_name 5 (some .int) ∈ BW := bw_wsL_law_r17 _ (List.mem_of_getElem? (i := 5) rfl)
theorem mw390 : Cond.methodLink RX8 155 Lib.Math.max.name ∈ BW := bw_wsL_law_r17 _ (List.mem_of_getElem? (i := 6) rfl)
theorem mw391 : Cond.methodLink RX8 144 yX1_hasName ∈ BW := bw_wsL_law_r17 _ (List.mem_of_getElem? (i := 7) rfl)
theorem mw392 : Cond.instanceMethod yX1_hasName ∈ BW := bw_wsL_law_r17 _ (List.mem_of_getElem? (i := 8) rfl)
theorem mw393 : Cond.selects RX1 yX1_hasName yX1_hasName ∈ BW := bw_wsL_law_r17 _ (List.mem_of_getElem? (i := 9) rfl)
theorem mw394 : Cond.code yX1_hasName cX1_hasName 2 (some .boolean) ∈ BW := bw_wsL_law_r17 _ (List.mem_of_getElem? (i := 10) rfl)
theorem mw395 : Cond.methodLink RX8 147 yX1_bearers ∈ BW := bw_wsL_law_r17 _ (List.mem_of_getElem? (i := 11) rfl)
theorem mw396 : Cond.methodLink RX8 150 yJ6_bitCount_0f7a4 ∈ BW := bw_wsL_law_r17 _ (List.mem_of_getElem? (i := 12) rfl)
theorem mw397 : Cond.methodLink RX8 160 yX1_wealthOf ∈ BW := bw_wsL_law_r17 _ (List.mem_of_getElem? (i := 13) rfl)
theorem mw398 : Cond.methodLink RX8 163 yX8_inLeastTerms ∈ BW := bw_wsL_law_r17 _ (List.mem_of_getElem? (i := 14) rfl)
theorem mw399 : Cond.static yX8_inLeastTerms ∈ BW := bw_wsL_law_r17 _ (List.mem_of_getElem? (i := 15) rfl)
theorem mw400 : Cond.code yX8_inLeastTerms cX8_inLeastTerms 3 (some .int) ∈ BW := bw_wsL_law_r17 _ (List.mem_of_getElem? (i := 16) rfl)
theorem mw401 : Cond.methodLink RX8 270 yX8_commonDivisor ∈ BW := bw_wsL_law_r17 _ (List.mem_of_getElem? (i := 17) rfl)
theorem mw402 : Cond.static yX8_commonDivisor ∈ BW := bw_wsL_law_r17 _ (List.mem_of_getElem? (i := 18) rfl)
theorem mw403 : Cond.code yX8_commonDivisor cX8_commonDivisor 6 (some .int) ∈ BW := bw_wsL_law_r17 _ (List.mem_of_getElem? (i := 19) rfl)
theorem mw404 : Cond.methodLink RL 39 yX9_name ∈ BW := bw_wsL_law_r17 _ (List.mem_of_getElem? (i := 20) rfl)
theorem mw405 : Cond.instanceMethod yX9_name ∈ BW := bw_wsL_law_r17 _ (List.mem_of_getElem? (i := 21) rfl)
theorem mw406 : Cond.selects RX9 yX9_name yX9_name ∈ BW := bw_wsL_law_r17 _ (List.mem_of_getElem? (i := 22) rfl)
theorem mw407 : Cond.code yX9_name cX9_name 4 (some .int) ∈ BW := bw_wsL_law_r17 _ (List.mem_of_getElem? (i := 23) rfl)
theorem mw408 : Cond.methodLink RX9 168 yX9_isName ∈ BW := bw_wsL_law_r18 _ (List.mem_of_getElem? (i := 0) rfl)
theorem mw409 : Cond.instanceMethod yX9_isName ∈ BW := bw_wsL_law_r18 _ (List.mem_of_getElem? (i := 1) rfl)
theorem mw410 : Cond.selects RX9 yX9_isName yX9_isName ∈ BW := bw_wsL_law_r18 _ (List.mem_of_getElem? (i := 2) rfl)
theorem mw411 : Cond.code yX9_isName cX9_isName 2 (some .boolean) ∈ BW := bw_wsL_law_r18 _ (List.mem_of_getElem? (i := 3) rfl)
theorem mw412 : Cond.methodLink RX9 171 yX9_part ∈ BW := bw_wsL_law_r18 _ (List.mem_of_getElem? (i := 4) rfl)
theorem mw413 : Cond.static yX9_part ∈ BW := bw_wsL_law_r18 _ (List.mem_of_getElem? (i := 5) rfl)
theorem mw414 : Cond.code yX9_part cX9_part 4 (some .int) ∈ BW := bw_wsL_law_r18 _ (List.mem_of_getElem? (i := 6) rfl)
theorem mw415 : Cond.methodLink RX9 165 yX9_gcd ∈ BW := bw_wsL_law_r18 _ (List.mem_of_getElem? (i := 7) rfl)
theorem mw416 : Cond.static yX9_gcd ∈ BW := bw_wsL_law_r18 _ (List.mem_of_getElem? (i := 8) rfl)
theorem mw417 : Cond.code yX9_gcd cX9_gcd 5 (some .int) ∈ BW := bw_wsL_law_r18 _ (List.mem_of_getElem? (i := 9) rfl)
theorem mw418 : Cond.methodLink RL 40 yX8_bill ∈ BW := bw_wsL_law_r18 _ (List.mem_of_getElem? (i := 10) rfl)
theorem mw419 : Cond.instanceMethod yX8_bill ∈ BW := bw_wsL_law_r18 _ (List.mem_of_getElem? (i := 11) rfl)
theorem mw420 : Cond.selects RX8 yX8_bill yX8_bill ∈ BW := bw_wsL_law_r18 _ (List.mem_of_getElem? (i := 12) rfl)
theorem mw421 : Cond.code yX8_bill cX8_bill 4 (some .int) ∈ BW := bw_wsL_law_r18 _ (List.mem_of_getElem? (i := 13) rfl)
theorem mw422 : Cond.fieldLink RX8 166 "OneJohn$Now" "laws" "I" ∈ BW := bw_wsL_law_r18 _ (List.mem_of_getElem? (i := 14) rfl)
theorem mw423 : Cond.methodLink RX8 169 yX1_yes ∈ BW := bw_wsL_law_r18 _ (List.mem_of_getElem? (i := 15) rfl)
theorem mw424 : Cond.instanceMethod yX1_yes ∈ BW := bw_wsL_law_r18 _ (List.mem_of_getElem? (i := 16) rfl)
theorem mw425 : Cond.selects RX1 yX1_yes yX1_yes ∈ BW := bw_wsL_law_r18 _ (List.mem_of_getElem? (i := 17) rfl)
theorem mw426 : Cond.code yX1_yes cX1_yes 4 (some .int) ∈ BW := bw_wsL_law_r18 _ (List.mem_of_getElem? (i := 18) rfl)
theorem mw427 : Cond.methodLink RX1 111 yX1_sayers ∈ BW := bw_wsL_law_r18 _ (List.mem_of_getElem? (i := 19) rfl)
theorem mw428 : Cond.instanceMethod yX1_sayers ∈ BW := bw_wsL_law_r18 _ (List.mem_of_getElem? (i := 20) rfl)
theorem mw429 : Cond.selects RX1 yX1_sayers yX1_sayers ∈ BW := bw_wsL_law_r18 _ (List.mem_of_getElem? (i := 21) rfl)
theorem mw430 : Cond.code yX1_sayers cX1_sayers 5 (some .int) ∈ BW := bw_wsL_law_r18 _ (List.mem_of_getElem? (i := 22) rfl)
theorem mw431 : Cond.methodLink RX1 114 yX1_votes ∈ BW := bw_wsL_law_r18 _ (List.mem_of_getElem? (i := 23) rfl)
theorem mw432 : Cond.instanceMethod yX1_votes ∈ BW := bw_wsL_law_r19 _ (List.mem_of_getElem? (i := 0) rfl)
theorem mw433 : Cond.selects RX1 yX1_votes yX1_votes ∈ BW := bw_wsL_law_r19 _ (List.mem_of_getElem? (i := 1) rfl)
theorem mw434 : Cond.code yX1_votes cX1_votes 11 (some .int) ∈ BW := bw_wsL_law_r19 _ (List.mem_of_getElem? (i := 2) rfl)
theorem mw435 : Cond.methodLink RX8 173 yX1_no ∈ BW := bw_wsL_law_r19 _ (List.mem_of_getElem? (i := 3) rfl)
theorem mw436 : Cond.instanceMethod yX1_no ∈ BW := bw_wsL_law_r19 _ (List.mem_of_getElem? (i := 4) rfl)
theorem mw437 : Cond.selects RX1 yX1_no yX1_no ∈ BW := bw_wsL_law_r19 _ (List.mem_of_getElem? (i := 5) rfl)
theorem mw438 : Cond.code yX1_no cX1_no 4 (some .int) ∈ BW := bw_wsL_law_r19 _ (List.mem_of_getElem? (i := 6) rfl)
theorem mw439 : Cond.methodLink RX8 176 yX1_passes ∈ BW := bw_wsL_law_r19 _ (List.mem_of_getElem? (i := 7) rfl)
theorem mw440 : Cond.instanceMethod yX1_passes ∈ BW := bw_wsL_law_r19 _ (List.mem_of_getElem? (i := 8) rfl)
theorem mw441 : Cond.selects RX1 yX1_passes yX1_passes ∈ BW := bw_wsL_law_r19 _ (List.mem_of_getElem? (i := 9) rfl)
theorem mw442 : Cond.code yX1_passes cX1_passes 4 (some .boolean) ∈ BW := bw_wsL_law_r19 _ (List.mem_of_getElem? (i := 10) rfl)
theorem mw443 : Cond.methodLink RX1 118 yX1_yes ∈ BW := bw_wsL_law_r19 _ (List.mem_of_getElem? (i := 11) rfl)
theorem mw444 : Cond.methodLink RX1 122 yX1_no ∈ BW := bw_wsL_law_r19 _ (List.mem_of_getElem? (i := 12) rfl)
theorem mw445 : Cond.methodLink RX8 179 yX1_sway ∈ BW := bw_wsL_law_r19 _ (List.mem_of_getElem? (i := 13) rfl)
theorem mw446 : Cond.instanceMethod yX1_sway ∈ BW := bw_wsL_law_r19 _ (List.mem_of_getElem? (i := 14) rfl)
theorem mw447 : Cond.selects RX1 yX1_sway yX1_sway ∈ BW := bw_wsL_law_r19 _ (List.mem_of_getElem? (i := 15) rfl)
theorem mw448 : Cond.code yX1_sway cX1_sway 5 (some .int) ∈ BW := bw_wsL_law_r19 _ (List.mem_of_getElem? (i := 16) rfl)
theorem mw449 : Cond.methodLink RX1 125 yX1_passes ∈ BW := bw_wsL_law_r19 _ (List.mem_of_getElem? (i := 17) rfl)
theorem mw450 : Cond.methodLink RL 43 yX9_bill ∈ BW := bw_wsL_law_r19 _ (List.mem_of_getElem? (i := 18) rfl)
theorem mw451 : Cond.instanceMethod yX9_bill ∈ BW := bw_wsL_law_r19 _ (List.mem_of_getElem? (i := 19) rfl)
theorem mw452 : Cond.selects RX9 yX9_bill yX9_bill ∈ BW := bw_wsL_law_r19 _ (List.mem_of_getElem? (i := 20) rfl)
theorem mw453 : Cond.code yX9_bill cX9_bill 3 (some .int) ∈ BW := bw_wsL_law_r19 _ (List.mem_of_getElem? (i := 21) rfl)
theorem mw454 : Cond.methodLink RX9 175 yX9_everybody ∈ BW := bw_wsL_law_r19 _ (List.mem_of_getElem? (i := 22) rfl)
theorem mw455 : Cond.instanceMethod yX9_everybody ∈ BW := bw_wsL_law_r19 _ (List.mem_of_getElem? (i := 23) rfl)
theorem mw456 : Cond.selects RX9 yX9_everybody yX9_everybody ∈ BW := bw_wsL_law_r20 _ (List.mem_of_getElem? (i := 0) rfl)
theorem mw457 : Cond.code yX9_everybody cX9_everybody 1 (some .int) ∈ BW := bw_wsL_law_r20 _ (List.mem_of_getElem? (i := 1) rfl)
theorem mw458 : Cond.methodLink RX9 149 yX9_voices ∈ BW := bw_wsL_law_r20 _ (List.mem_of_getElem? (i := 2) rfl)
theorem mw459 : Cond.instanceMethod yX9_voices ∈ BW := bw_wsL_law_r20 _ (List.mem_of_getElem? (i := 3) rfl)
theorem mw460 : Cond.selects RX9 yX9_voices yX9_voices ∈ BW := bw_wsL_law_r20 _ (List.mem_of_getElem? (i := 4) rfl)
theorem mw461 : Cond.code yX9_voices cX9_voices 7 (some .int) ∈ BW := bw_wsL_law_r20 _ (List.mem_of_getElem? (i := 5) rfl)
theorem mw462 : Cond.methodLink RX9 146 yX9_leadOf ∈ BW := bw_wsL_law_r20 _ (List.mem_of_getElem? (i := 6) rfl)
theorem mw463 : Cond.instanceMethod yX9_leadOf ∈ BW := bw_wsL_law_r20 _ (List.mem_of_getElem? (i := 7) rfl)
theorem mw464 : Cond.selects RX9 yX9_leadOf yX9_leadOf ∈ BW := bw_wsL_law_r20 _ (List.mem_of_getElem? (i := 8) rfl)
theorem mw465 : Cond.code yX9_leadOf cX9_leadOf 5 (some .int) ∈ BW := bw_wsL_law_r20 _ (List.mem_of_getElem? (i := 9) rfl)
theorem mw466 : Cond.methodLink RX9 179 yX9_passes ∈ BW := bw_wsL_law_r20 _ (List.mem_of_getElem? (i := 10) rfl)
theorem mw467 : Cond.instanceMethod yX9_passes ∈ BW := bw_wsL_law_r20 _ (List.mem_of_getElem? (i := 11) rfl)
theorem mw468 : Cond.selects RX9 yX9_passes yX9_passes ∈ BW := bw_wsL_law_r20 _ (List.mem_of_getElem? (i := 12) rfl)
theorem mw469 : Cond.code yX9_passes cX9_passes 4 (some .boolean) ∈ BW := bw_wsL_law_r20 _ (List.mem_of_getElem? (i := 13) rfl)
theorem mw470 : Cond.methodLink RX9 183 yX9_swayOf ∈ BW := bw_wsL_law_r20 _ (List.mem_of_getElem? (i := 14) rfl)
theorem mw471 : Cond.instanceMethod yX9_swayOf ∈ BW := bw_wsL_law_r20 _ (List.mem_of_getElem? (i := 15) rfl)
theorem mw472 : Cond.selects RX9 yX9_swayOf yX9_swayOf ∈ BW := bw_wsL_law_r20 _ (List.mem_of_getElem? (i := 16) rfl)
theorem mw473 : Cond.code yX9_swayOf cX9_swayOf 4 (some .int) ∈ BW := bw_wsL_law_r20 _ (List.mem_of_getElem? (i := 17) rfl)
theorem mw474 : Cond.methodLink RL 44 yX8_now ∈ BW := bw_wsL_law_r20 _ (List.mem_of_getElem? (i := 18) rfl)
theorem mw475 : Cond.instanceMethod yX8_now ∈ BW := bw_wsL_law_r20 _ (List.mem_of_getElem? (i := 19) rfl)
theorem mw476 : Cond.selects RX8 yX8_now yX8_now ∈ BW := bw_wsL_law_r20 _ (List.mem_of_getElem? (i := 20) rfl)
theorem mw477 : Cond.code yX8_now cX8_now 2 (some .int) ∈ BW := bw_wsL_law_r20 _ (List.mem_of_getElem? (i := 21) rfl)
theorem mw478 : Cond.fieldLink RX8 182 "OneJohn$Now" "years" "I" ∈ BW := bw_wsL_law_r20 _ (List.mem_of_getElem? (i := 22) rfl)
theorem mw479 : Cond.fieldLink RX8 185 "OneJohn$Now" "chest" "I" ∈ BW := bw_wsL_law_r20 _ (List.mem_of_getElem? (i := 23) rfl)
theorem mw480 : Cond.methodLink RX8 188 yX1_badOnes ∈ BW := bw_wsL_law_r21 _ (List.mem_of_getElem? (i := 0) rfl)
theorem mw481 : Cond.instanceMethod yX1_badOnes ∈ BW := bw_wsL_law_r21 _ (List.mem_of_getElem? (i := 1) rfl)
theorem mw482 : Cond.selects RX1 yX1_badOnes yX1_badOnes ∈ BW := bw_wsL_law_r21 _ (List.mem_of_getElem? (i := 2) rfl)
theorem mw483 : Cond.code yX1_badOnes cX1_badOnes 4 (some .int) ∈ BW := bw_wsL_law_r21 _ (List.mem_of_getElem? (i := 3) rfl)
theorem mw484 : Cond.methodLink RX1 107 yX1_quarrel ∈ BW := bw_wsL_law_r21 _ (List.mem_of_getElem? (i := 4) rfl)
theorem mw485 : Cond.instanceMethod yX1_quarrel ∈ BW := bw_wsL_law_r21 _ (List.mem_of_getElem? (i := 5) rfl)
theorem mw486 : Cond.selects RX1 yX1_quarrel yX1_quarrel ∈ BW := bw_wsL_law_r21 _ (List.mem_of_getElem? (i := 6) rfl)
theorem mw487 : Cond.code yX1_quarrel cX1_quarrel 3 (some .boolean) ∈ BW := bw_wsL_law_r21 _ (List.mem_of_getElem? (i := 7) rfl)
theorem mw488 : Cond.methodLink RX8 191 yX1_alone ∈ BW := bw_wsL_law_r21 _ (List.mem_of_getElem? (i := 8) rfl)
theorem mw489 : Cond.instanceMethod yX1_alone ∈ BW := bw_wsL_law_r21 _ (List.mem_of_getElem? (i := 9) rfl)
theorem mw490 : Cond.selects RX1 yX1_alone yX1_alone ∈ BW := bw_wsL_law_r21 _ (List.mem_of_getElem? (i := 10) rfl)
theorem mw491 : Cond.code yX1_alone cX1_alone 4 (some .int) ∈ BW := bw_wsL_law_r21 _ (List.mem_of_getElem? (i := 11) rfl)
theorem mw492 : Cond.methodLink RX8 194 yX1_restless ∈ BW := bw_wsL_law_r21 _ (List.mem_of_getElem? (i := 12) rfl)
theorem mw493 : Cond.instanceMethod yX1_restless ∈ BW := bw_wsL_law_r21 _ (List.mem_of_getElem? (i := 13) rfl)
theorem mw494 : Cond.selects RX1 yX1_restless yX1_restless ∈ BW := bw_wsL_law_r21 _ (List.mem_of_getElem? (i := 14) rfl)
theorem mw495 : Cond.code yX1_restless cX1_restless 3 (some .int) ∈ BW := bw_wsL_law_r21 _ (List.mem_of_getElem? (i := 15) rfl)
theorem mw496 : Cond.methodLink RX1 104 yX1_cheapestName ∈ BW := bw_wsL_law_r21 _ (List.mem_of_getElem? (i := 16) rfl)
theorem mw497 : Cond.instanceMethod yX1_cheapestName ∈ BW := bw_wsL_law_r21 _ (List.mem_of_getElem? (i := 17) rfl)
theorem mw498 : Cond.selects RX1 yX1_cheapestName yX1_cheapestName ∈ BW := bw_wsL_law_r21 _ (List.mem_of_getElem? (i := 18) rfl)
theorem mw499 : Cond.code yX1_cheapestName cX1_cheapestName 4 (some .int) ∈ BW := bw_wsL_law_r21 _ (List.mem_of_getElem? (i := 19) rfl)
theorem mw500 : Cond.methodLink RX1 97 yX1_tax ∈ BW := bw_wsL_law_r21 _ (List.mem_of_getElem? (i := 20) rfl)
theorem mw501 : Cond.methodLink RL 47 yX9_now ∈ BW := bw_wsL_law_r21 _ (List.mem_of_getElem? (i := 21) rfl)
theorem mw502 : Cond.instanceMethod yX9_now ∈ BW := bw_wsL_law_r21 _ (List.mem_of_getElem? (i := 22) rfl)
theorem mw503 : Cond.selects RX9 yX9_now yX9_now ∈ BW := bw_wsL_law_r21 _ (List.mem_of_getElem? (i := 23) rfl)
theorem mw504 : Cond.code yX9_now cX9_now 2 (some .int) ∈ BW := bw_wsL_law_r22 _ (List.mem_of_getElem? (i := 0) rfl)
theorem mw505 : Cond.methodLink RX9 192 yX9_limping ∈ BW := bw_wsL_law_r22 _ (List.mem_of_getElem? (i := 1) rfl)
theorem mw506 : Cond.instanceMethod yX9_limping ∈ BW := bw_wsL_law_r22 _ (List.mem_of_getElem? (i := 2) rfl)
theorem mw507 : Cond.selects RX9 yX9_limping yX9_limping ∈ BW := bw_wsL_law_r22 _ (List.mem_of_getElem? (i := 3) rfl)
theorem mw508 : Cond.code yX9_limping cX9_limping 3 (some .int) ∈ BW := bw_wsL_law_r22 _ (List.mem_of_getElem? (i := 4) rfl)
theorem mw509 : Cond.methodLink RX9 195 yX9_badOnes ∈ BW := bw_wsL_law_r22 _ (List.mem_of_getElem? (i := 5) rfl)
theorem mw510 : Cond.instanceMethod yX9_badOnes ∈ BW := bw_wsL_law_r22 _ (List.mem_of_getElem? (i := 6) rfl)
theorem mw511 : Cond.selects RX9 yX9_badOnes yX9_badOnes ∈ BW := bw_wsL_law_r22 _ (List.mem_of_getElem? (i := 7) rfl)
theorem mw512 : Cond.code yX9_badOnes cX9_badOnes 3 (some .int) ∈ BW := bw_wsL_law_r22 _ (List.mem_of_getElem? (i := 8) rfl)
theorem mw513 : Cond.methodLink RX9 198 yX9_alone ∈ BW := bw_wsL_law_r22 _ (List.mem_of_getElem? (i := 9) rfl)
theorem mw514 : Cond.instanceMethod yX9_alone ∈ BW := bw_wsL_law_r22 _ (List.mem_of_getElem? (i := 10) rfl)
theorem mw515 : Cond.selects RX9 yX9_alone yX9_alone ∈ BW := bw_wsL_law_r22 _ (List.mem_of_getElem? (i := 11) rfl)
theorem mw516 : Cond.code yX9_alone cX9_alone 3 (some .int) ∈ BW := bw_wsL_law_r22 _ (List.mem_of_getElem? (i := 12) rfl)
theorem mw517 : Cond.methodLink RX9 201 yX9_restless ∈ BW := bw_wsL_law_r22 _ (List.mem_of_getElem? (i := 13) rfl)
theorem mw518 : Cond.instanceMethod yX9_restless ∈ BW := bw_wsL_law_r22 _ (List.mem_of_getElem? (i := 14) rfl)
theorem mw519 : Cond.selects RX9 yX9_restless yX9_restless ∈ BW := bw_wsL_law_r22 _ (List.mem_of_getElem? (i := 15) rfl)
theorem mw520 : Cond.code yX9_restless cX9_restless 3 (some .int) ∈ BW := bw_wsL_law_r22 _ (List.mem_of_getElem? (i := 16) rfl)
theorem mw521 : Cond.methodLink RX9 186 yX9_cheapestOf ∈ BW := bw_wsL_law_r22 _ (List.mem_of_getElem? (i := 17) rfl)
theorem mw522 : Cond.instanceMethod yX9_cheapestOf ∈ BW := bw_wsL_law_r22 _ (List.mem_of_getElem? (i := 18) rfl)
theorem mw523 : Cond.selects RX9 yX9_cheapestOf yX9_cheapestOf ∈ BW := bw_wsL_law_r22 _ (List.mem_of_getElem? (i := 19) rfl)
theorem mw524 : Cond.code yX9_cheapestOf cX9_cheapestOf 4 (some .int) ∈ BW := bw_wsL_law_r22 _ (List.mem_of_getElem? (i := 20) rfl)
theorem mw525 : Cond.methodLink RX9 189 yX9_taxBy ∈ BW := bw_wsL_law_r22 _ (List.mem_of_getElem? (i := 21) rfl)
theorem mw526 : Cond.instanceMethod yX9_taxBy ∈ BW := bw_wsL_law_r22 _ (List.mem_of_getElem? (i := 22) rfl)
theorem mw527 : Cond.selects RX9 yX9_taxBy yX9_taxBy ∈ BW := bw_wsL_law_r22 _ (List.mem_of_getElem? (i := 23) rfl)
theorem mw528 : Cond.code yX9_taxBy cX9_taxBy 3 (some .int) ∈ BW := bw_wsL_law_r23 _ (List.mem_of_getElem? (i := 0) rfl)
theorem mw529 : Cond.methodLink RX9 212 yX9_asNow ∈ BW := bw_wsL_law_r23 _ (List.mem_of_getElem? (i := 1) rfl)
theorem mw530 : Cond.instanceMethod yX9_asNow ∈ BW := bw_wsL_law_r23 _ (List.mem_of_getElem? (i := 2) rfl)
theorem mw531 : Cond.selects RX9 yX9_asNow yX9_asNow ∈ BW := bw_wsL_law_r23 _ (List.mem_of_getElem? (i := 3) rfl)
theorem mw532 : Cond.code yX9_asNow cX9_asNow 2 none ∈ BW := bw_wsL_law_r23 _ (List.mem_of_getElem? (i := 4) rfl)
theorem mw533 : Cond.methodLink RL 48 yX8_hurts ∈ BW := bw_wsL_law_r23 _ (List.mem_of_getElem? (i := 5) rfl)
theorem mw534 : Cond.instanceMethod yX8_hurts ∈ BW := bw_wsL_law_r23 _ (List.mem_of_getElem? (i := 6) rfl)
theorem mw535 : Cond.selects RX8 yX8_hurts yX8_hurts ∈ BW := bw_wsL_law_r23 _ (List.mem_of_getElem? (i := 7) rfl)
theorem mw536 : Cond.code yX8_hurts cX8_hurts 4 (some .int) ∈ BW := bw_wsL_law_r23 _ (List.mem_of_getElem? (i := 8) rfl)
theorem mw537 : Cond.methodLink RX8 197 yX3_remember ∈ BW := bw_wsL_law_r23 _ (List.mem_of_getElem? (i := 9) rfl)
theorem mw538 : Cond.instanceMethod yX3_remember ∈ BW := bw_wsL_law_r23 _ (List.mem_of_getElem? (i := 10) rfl)
theorem mw539 : Cond.selects RX3 yX3_remember yX3_remember ∈ BW := bw_wsL_law_r23 _ (List.mem_of_getElem? (i := 11) rfl)
theorem mw540 : Cond.code yX3_remember cX3_remember 2 none ∈ BW := bw_wsL_law_r23 _ (List.mem_of_getElem? (i := 12) rfl)
theorem mw541 : Cond.methodLink RX3 29 Lib.Math.min.name ∈ BW := bw_wsL_law_r23 _ (List.mem_of_getElem? (i := 13) rfl)
theorem mw542 : Cond.static Lib.Math.min.name ∈ BW := bw_wsL_law_r23 _ (List.mem_of_getElem? (i := 14) rfl)
theorem mw543 : Cond.code Lib.Math.min.name Lib.Math.min.code 2 (some .int) ∈ BW := bw_wsL_law_r23 _ (List.mem_of_getElem? (i := 15) rfl)
theorem mw544 : Cond.methodLink RX3 25 yX2_take ∈ BW := bw_wsL_law_r23 _ (List.mem_of_getElem? (i := 16) rfl)
theorem mw545 : Cond.methodLink RL 51 yX9_hurts ∈ BW := bw_wsL_law_r23 _ (List.mem_of_getElem? (i := 17) rfl)
theorem mw546 : Cond.instanceMethod yX9_hurts ∈ BW := bw_wsL_law_r23 _ (List.mem_of_getElem? (i := 18) rfl)
theorem mw547 : Cond.selects RX9 yX9_hurts yX9_hurts ∈ BW := bw_wsL_law_r23 _ (List.mem_of_getElem? (i := 19) rfl)
theorem mw548 : Cond.code yX9_hurts cX9_hurts 4 (some .int) ∈ BW := bw_wsL_law_r23 _ (List.mem_of_getElem? (i := 20) rfl)
theorem mw549 : Cond.methodLink RX9 204 yX9_notes ∈ BW := bw_wsL_law_r23 _ (List.mem_of_getElem? (i := 21) rfl)
theorem mw550 : Cond.instanceMethod yX9_notes ∈ BW := bw_wsL_law_r23 _ (List.mem_of_getElem? (i := 22) rfl)
theorem mw551 : Cond.selects RX9 yX9_notes yX9_notes ∈ BW := bw_wsL_law_r23 _ (List.mem_of_getElem? (i := 23) rfl)
theorem mw552 : Cond.code yX9_notes cX9_notes 2 none ∈ BW := bw_wsL_law_r24 _ (List.mem_of_getElem? (i := 0) rfl)
theorem mw553 : Cond.methodLink RL 52 yX8_deeds ∈ BW := bw_wsL_law_r24 _ (List.mem_of_getElem? (i := 1) rfl)
theorem mw554 : Cond.instanceMethod yX8_deeds ∈ BW := bw_wsL_law_r24 _ (List.mem_of_getElem? (i := 2) rfl)
theorem mw555 : Cond.selects RX8 yX8_deeds yX8_deeds ∈ BW := bw_wsL_law_r24 _ (List.mem_of_getElem? (i := 3) rfl)
theorem mw556 : Cond.code yX8_deeds cX8_deeds 2 (some .int) ∈ BW := bw_wsL_law_r24 _ (List.mem_of_getElem? (i := 4) rfl)
theorem mw557 : Cond.methodLink RL 55 yX9_deeds ∈ BW := bw_wsL_law_r24 _ (List.mem_of_getElem? (i := 5) rfl)
theorem mw558 : Cond.instanceMethod yX9_deeds ∈ BW := bw_wsL_law_r24 _ (List.mem_of_getElem? (i := 6) rfl)
theorem mw559 : Cond.selects RX9 yX9_deeds yX9_deeds ∈ BW := bw_wsL_law_r24 _ (List.mem_of_getElem? (i := 7) rfl)
theorem mw560 : Cond.code yX9_deeds cX9_deeds 2 (some .int) ∈ BW := bw_wsL_law_r24 _ (List.mem_of_getElem? (i := 8) rfl)
theorem mw561 : Cond.methodLink RL 56 yX8_earns ∈ BW := bw_wsL_law_r24 _ (List.mem_of_getElem? (i := 9) rfl)
theorem mw562 : Cond.instanceMethod yX8_earns ∈ BW := bw_wsL_law_r24 _ (List.mem_of_getElem? (i := 10) rfl)
theorem mw563 : Cond.selects RX8 yX8_earns yX8_earns ∈ BW := bw_wsL_law_r24 _ (List.mem_of_getElem? (i := 11) rfl)
theorem mw564 : Cond.code yX8_earns cX8_earns 3 (some .int) ∈ BW := bw_wsL_law_r24 _ (List.mem_of_getElem? (i := 12) rfl)
theorem mw565 : Cond.methodLink RX8 201 Lib.Math.min.name ∈ BW := bw_wsL_law_r24 _ (List.mem_of_getElem? (i := 13) rfl)
theorem mw566 : Cond.methodLink RL 59 yX9_earns ∈ BW := bw_wsL_law_r24 _ (List.mem_of_getElem? (i := 14) rfl)
theorem mw567 : Cond.instanceMethod yX9_earns ∈ BW := bw_wsL_law_r24 _ (List.mem_of_getElem? (i := 15) rfl)
theorem mw568 : Cond.selects RX9 yX9_earns yX9_earns ∈ BW := bw_wsL_law_r24 _ (List.mem_of_getElem? (i := 16) rfl)
theorem mw569 : Cond.code yX9_earns cX9_earns 4 (some .int) ∈ BW := bw_wsL_law_r24 _ (List.mem_of_getElem? (i := 17) rfl)
theorem mw570 : Cond.methodLink RL 60 yX8_names ∈ BW := bw_wsL_law_r24 _ (List.mem_of_getElem? (i := 18) rfl)
theorem mw571 : Cond.instanceMethod yX8_names ∈ BW := bw_wsL_law_r24 _ (List.mem_of_getElem? (i := 19) rfl)
theorem mw572 : Cond.selects RX8 yX8_names yX8_names ∈ BW := bw_wsL_law_r24 _ (List.mem_of_getElem? (i := 20) rfl)
theorem mw573 : Cond.code yX8_names cX8_names 4 (some .int) ∈ BW := bw_wsL_law_r24 _ (List.mem_of_getElem? (i := 21) rfl)
theorem mw574 : Cond.methodLink RL 63 yX9_names ∈ BW := bw_wsL_law_r24 _ (List.mem_of_getElem? (i := 22) rfl)
theorem mw575 : Cond.instanceMethod yX9_names ∈ BW := bw_wsL_law_r24 _ (List.mem_of_getElem? (i := 23) rfl)
theorem mw576 : Cond.selects RX9 yX9_names yX9_names ∈ BW := bw_wsL_law_r25 _ (List.mem_of_getElem? (i := 0) rfl)
theorem mw577 : Cond.code yX9_names cX9_names 4 (some .int) ∈ BW := bw_wsL_law_r25 _ (List.mem_of_getElem? (i := 1) rfl)
theorem mw578 : Cond.methodLink RL 64 yX8_laws ∈ BW := bw_wsL_law_r25 _ (List.mem_of_getElem? (i := 2) rfl)
theorem mw579 : Cond.instanceMethod yX8_laws ∈ BW := bw_wsL_law_r25 _ (List.mem_of_getElem? (i := 3) rfl)
theorem mw580 : Cond.selects RX8 yX8_laws yX8_laws ∈ BW := bw_wsL_law_r25 _ (List.mem_of_getElem? (i := 4) rfl)
theorem mw581 : Cond.code yX8_laws cX8_laws 3 (some .int) ∈ BW := bw_wsL_law_r25 _ (List.mem_of_getElem? (i := 5) rfl)
theorem mw582 : Cond.methodLink RL 67 yX9_laws ∈ BW := bw_wsL_law_r25 _ (List.mem_of_getElem? (i := 6) rfl)
theorem mw583 : Cond.instanceMethod yX9_laws ∈ BW := bw_wsL_law_r25 _ (List.mem_of_getElem? (i := 7) rfl)
theorem mw584 : Cond.selects RX9 yX9_laws yX9_laws ∈ BW := bw_wsL_law_r25 _ (List.mem_of_getElem? (i := 8) rfl)
theorem mw585 : Cond.code yX9_laws cX9_laws 3 (some .int) ∈ BW := bw_wsL_law_r25 _ (List.mem_of_getElem? (i := 9) rfl)
theorem mw586 : Cond.methodLink RL 68 yX8_year ∈ BW := bw_wsL_law_r25 _ (List.mem_of_getElem? (i := 10) rfl)
theorem mw587 : Cond.instanceMethod yX8_year ∈ BW := bw_wsL_law_r25 _ (List.mem_of_getElem? (i := 11) rfl)
theorem mw588 : Cond.selects RX8 yX8_year yX8_year ∈ BW := bw_wsL_law_r25 _ (List.mem_of_getElem? (i := 12) rfl)
theorem mw589 : Cond.code yX8_year cX8_year 1 (some .int) ∈ BW := bw_wsL_law_r25 _ (List.mem_of_getElem? (i := 13) rfl)
theorem mw590 : Cond.methodLink RX8 204 yX1_payTax ∈ BW := bw_wsL_law_r25 _ (List.mem_of_getElem? (i := 14) rfl)
theorem mw591 : Cond.instanceMethod yX1_payTax ∈ BW := bw_wsL_law_r25 _ (List.mem_of_getElem? (i := 15) rfl)
theorem mw592 : Cond.selects RX1 yX1_payTax yX1_payTax ∈ BW := bw_wsL_law_r25 _ (List.mem_of_getElem? (i := 16) rfl)
theorem mw593 : Cond.code yX1_payTax cX1_payTax 3 (some .int) ∈ BW := bw_wsL_law_r25 _ (List.mem_of_getElem? (i := 17) rfl)
theorem mw594 : Cond.methodLink RX1 100 Lib.Math.min.name ∈ BW := bw_wsL_law_r25 _ (List.mem_of_getElem? (i := 18) rfl)
theorem mw595 : Cond.constant RX1 103 (999999) ∈ BW := bw_wsL_law_r25 _ (List.mem_of_getElem? (i := 19) rfl)
theorem mw596 : Cond.methodLink RL 71 yX9_year ∈ BW := bw_wsL_law_r25 _ (List.mem_of_getElem? (i := 20) rfl)
theorem mw597 : Cond.instanceMethod yX9_year ∈ BW := bw_wsL_law_r25 _ (List.mem_of_getElem? (i := 21) rfl)
theorem mw598 : Cond.selects RX9 yX9_year yX9_year ∈ BW := bw_wsL_law_r25 _ (List.mem_of_getElem? (i := 22) rfl)
theorem mw599 : Cond.code yX9_year cX9_year 3 (some .int) ∈ BW := bw_wsL_law_r25 _ (List.mem_of_getElem? (i := 23) rfl)
theorem mw600 : Cond.constant RX9 207 (999999) ∈ BW := bw_wsL_law_r26 _ (List.mem_of_getElem? (i := 0) rfl)
theorem mw601 : Cond.methodLink RL 72 yX8_undo ∈ BW := bw_wsL_law_r26 _ (List.mem_of_getElem? (i := 1) rfl)
theorem mw602 : Cond.instanceMethod yX8_undo ∈ BW := bw_wsL_law_r26 _ (List.mem_of_getElem? (i := 2) rfl)
theorem mw603 : Cond.selects RX8 yX8_undo yX8_undo ∈ BW := bw_wsL_law_r26 _ (List.mem_of_getElem? (i := 3) rfl)
theorem mw604 : Cond.code yX8_undo cX8_undo 1 (some .int) ∈ BW := bw_wsL_law_r26 _ (List.mem_of_getElem? (i := 4) rfl)
theorem mw605 : Cond.methodLink RX8 207 yX3_recall ∈ BW := bw_wsL_law_r26 _ (List.mem_of_getElem? (i := 5) rfl)
theorem mw606 : Cond.instanceMethod yX3_recall ∈ BW := bw_wsL_law_r26 _ (List.mem_of_getElem? (i := 6) rfl)
theorem mw607 : Cond.selects RX3 yX3_recall yX3_recall ∈ BW := bw_wsL_law_r26 _ (List.mem_of_getElem? (i := 7) rfl)
theorem mw608 : Cond.code yX3_recall cX3_recall 2 none ∈ BW := bw_wsL_law_r26 _ (List.mem_of_getElem? (i := 8) rfl)
theorem mw609 : Cond.methodLink RL 75 yX9_undo ∈ BW := bw_wsL_law_r26 _ (List.mem_of_getElem? (i := 9) rfl)
theorem mw610 : Cond.instanceMethod yX9_undo ∈ BW := bw_wsL_law_r26 _ (List.mem_of_getElem? (i := 10) rfl)
theorem mw611 : Cond.selects RX9 yX9_undo yX9_undo ∈ BW := bw_wsL_law_r26 _ (List.mem_of_getElem? (i := 11) rfl)
theorem mw612 : Cond.code yX9_undo cX9_undo 2 (some .int) ∈ BW := bw_wsL_law_r26 _ (List.mem_of_getElem? (i := 12) rfl)
theorem mw613 : Cond.methodLink RL 76 yX8_apart ∈ BW := bw_wsL_law_r26 _ (List.mem_of_getElem? (i := 13) rfl)
theorem mw614 : Cond.instanceMethod yX8_apart ∈ BW := bw_wsL_law_r26 _ (List.mem_of_getElem? (i := 14) rfl)
theorem mw615 : Cond.selects RX8 yX8_apart yX8_apart ∈ BW := bw_wsL_law_r26 _ (List.mem_of_getElem? (i := 15) rfl)
theorem mw616 : Cond.code yX8_apart cX8_apart 2 (some .int) ∈ BW := bw_wsL_law_r26 _ (List.mem_of_getElem? (i := 16) rfl)
theorem mw617 : Cond.fieldLink RX8 217 "OneJohn$Renaming" "fewest" "I" ∈ BW := bw_wsL_law_r26 _ (List.mem_of_getElem? (i := 17) rfl)
theorem mw618 : Cond.fieldLink RX8 220 "OneJohn$Renaming" "best" "[I" ∈ BW := bw_wsL_law_r26 _ (List.mem_of_getElem? (i := 18) rfl)
theorem mw619 : Cond.methodLink RX8 210 yX5_search ∈ BW := bw_wsL_law_r26 _ (List.mem_of_getElem? (i := 19) rfl)
theorem mw620 : Cond.instanceMethod yX5_search ∈ BW := bw_wsL_law_r26 _ (List.mem_of_getElem? (i := 20) rfl)
theorem mw621 : Cond.selects RX5 yX5_search yX5_search ∈ BW := bw_wsL_law_r26 _ (List.mem_of_getElem? (i := 21) rfl)
theorem mw622 : Cond.code yX5_search cX5_search 2 none ∈ BW := bw_wsL_law_r26 _ (List.mem_of_getElem? (i := 22) rfl)
theorem mw623 : Cond.methodLink RX5 22 yX5_nameFrom ∈ BW := bw_wsL_law_r26 _ (List.mem_of_getElem? (i := 23) rfl)
theorem mw624 : Cond.instanceMethod yX5_nameFrom ∈ BW := bw_wsL_law_r27 _ (List.mem_of_getElem? (i := 0) rfl)
theorem mw625 : Cond.selects RX5 yX5_nameFrom yX5_nameFrom ∈ BW := bw_wsL_law_r27 _ (List.mem_of_getElem? (i := 1) rfl)
theorem mw626 : Cond.code yX5_nameFrom cX5_nameFrom 5 none ∈ BW := bw_wsL_law_r27 _ (List.mem_of_getElem? (i := 2) rfl)
theorem mw627 : Cond.fieldLink RX5 26 "OneJohn$Land" "people" "I" ∈ BW := bw_wsL_law_r27 _ (List.mem_of_getElem? (i := 3) rfl)
theorem mw628 : Cond.methodLink RX5 31 arraycopyName ∈ BW := bw_wsL_law_r27 _ (List.mem_of_getElem? (i := 4) rfl)
theorem mw629 : Cond.fieldLink RX5 37 "OneJohn$Land" "nameCount" "I" ∈ BW := bw_wsL_law_r27 _ (List.mem_of_getElem? (i := 5) rfl)
theorem mw630 : Cond.fieldLink RX5 44 "OneJohn$Land" "now" "LOneJohn$Now;" ∈ BW := bw_wsL_law_r27 _ (List.mem_of_getElem? (i := 6) rfl)
theorem mw631 : Cond.fieldLink RX5 48 "OneJohn$Now" "names" "[I" ∈ BW := bw_wsL_law_r27 _ (List.mem_of_getElem? (i := 7) rfl)
theorem mw632 : Cond.methodLink RX5 40 yX5_isFree ∈ BW := bw_wsL_law_r27 _ (List.mem_of_getElem? (i := 8) rfl)
theorem mw633 : Cond.instanceMethod yX5_isFree ∈ BW := bw_wsL_law_r27 _ (List.mem_of_getElem? (i := 9) rfl)
theorem mw634 : Cond.selects RX5 yX5_isFree yX5_isFree ∈ BW := bw_wsL_law_r27 _ (List.mem_of_getElem? (i := 10) rfl)
theorem mw635 : Cond.code yX5_isFree cX5_isFree 5 (some .boolean) ∈ BW := bw_wsL_law_r27 _ (List.mem_of_getElem? (i := 11) rfl)
theorem mw636 : Cond.methodLink RX5 53 yX1_quarrel ∈ BW := bw_wsL_law_r27 _ (List.mem_of_getElem? (i := 12) rfl)
theorem mw637 : Cond.methodLink RX8 213 yX5_found ∈ BW := bw_wsL_law_r27 _ (List.mem_of_getElem? (i := 13) rfl)
theorem mw638 : Cond.instanceMethod yX5_found ∈ BW := bw_wsL_law_r27 _ (List.mem_of_getElem? (i := 14) rfl)
theorem mw639 : Cond.selects RX5 yX5_found yX5_found ∈ BW := bw_wsL_law_r27 _ (List.mem_of_getElem? (i := 15) rfl)
theorem mw640 : Cond.code yX5_found cX5_found 1 (some .boolean) ∈ BW := bw_wsL_law_r27 _ (List.mem_of_getElem? (i := 16) rfl)
theorem mw641 : Cond.methodLink RL 79 yX9_apart ∈ BW := bw_wsL_law_r27 _ (List.mem_of_getElem? (i := 17) rfl)
theorem mw642 : Cond.instanceMethod yX9_apart ∈ BW := bw_wsL_law_r27 _ (List.mem_of_getElem? (i := 18) rfl)
theorem mw643 : Cond.selects RX9 yX9_apart yX9_apart ∈ BW := bw_wsL_law_r27 _ (List.mem_of_getElem? (i := 19) rfl)
theorem mw644 : Cond.code yX9_apart cX9_apart 7 (some .int) ∈ BW := bw_wsL_law_r27 _ (List.mem_of_getElem? (i := 20) rfl)
theorem mw645 : Cond.constant RX9 208 (1000000) ∈ BW := bw_wsL_law_r27 _ (List.mem_of_getElem? (i := 21) rfl)
theorem mw646 : Cond.methodLink RX9 209 yX9_renamedBy ∈ BW := bw_wsL_law_r27 _ (List.mem_of_getElem? (i := 22) rfl)
theorem mw647 : Cond.instanceMethod yX9_renamedBy ∈ BW := bw_wsL_law_r27 _ (List.mem_of_getElem? (i := 23) rfl)
theorem mw648 : Cond.selects RX9 yX9_renamedBy yX9_renamedBy ∈ BW := bw_wsL_law_r28 _ (List.mem_of_getElem? (i := 0) rfl)
theorem mw649 : Cond.code yX9_renamedBy cX9_renamedBy 6 (some .int) ∈ BW := bw_wsL_law_r28 _ (List.mem_of_getElem? (i := 1) rfl)
theorem mw650 : Cond.methodLink RL 80 yX8_cheapest ∈ BW := bw_wsL_law_r28 _ (List.mem_of_getElem? (i := 2) rfl)
theorem mw651 : Cond.instanceMethod yX8_cheapest ∈ BW := bw_wsL_law_r28 _ (List.mem_of_getElem? (i := 3) rfl)
theorem mw652 : Cond.selects RX8 yX8_cheapest yX8_cheapest ∈ BW := bw_wsL_law_r28 _ (List.mem_of_getElem? (i := 4) rfl)
theorem mw653 : Cond.code yX8_cheapest cX8_cheapest 2 (some .int) ∈ BW := bw_wsL_law_r28 _ (List.mem_of_getElem? (i := 5) rfl)
theorem mw654 : Cond.methodLink RX8 223 yX1_cheapestName ∈ BW := bw_wsL_law_r28 _ (List.mem_of_getElem? (i := 6) rfl)
theorem mw655 : Cond.methodLink RL 83 yX9_cheapest ∈ BW := bw_wsL_law_r28 _ (List.mem_of_getElem? (i := 7) rfl)
theorem mw656 : Cond.instanceMethod yX9_cheapest ∈ BW := bw_wsL_law_r28 _ (List.mem_of_getElem? (i := 8) rfl)
theorem mw657 : Cond.selects RX9 yX9_cheapest yX9_cheapest ∈ BW := bw_wsL_law_r28 _ (List.mem_of_getElem? (i := 9) rfl)
theorem mw658 : Cond.code yX9_cheapest cX9_cheapest 2 (some .int) ∈ BW := bw_wsL_law_r28 _ (List.mem_of_getElem? (i := 10) rfl)
theorem mw659 : Cond.methodLink RL 84 yX8_tells ∈ BW := bw_wsL_law_r28 _ (List.mem_of_getElem? (i := 11) rfl)
theorem mw660 : Cond.instanceMethod yX8_tells ∈ BW := bw_wsL_law_r28 _ (List.mem_of_getElem? (i := 12) rfl)
theorem mw661 : Cond.selects RX8 yX8_tells yX8_tells ∈ BW := bw_wsL_law_r28 _ (List.mem_of_getElem? (i := 13) rfl)
theorem mw662 : Cond.code yX8_tells cX8_tells 3 (some .int) ∈ BW := bw_wsL_law_r28 _ (List.mem_of_getElem? (i := 14) rfl)
theorem mw663 : Cond.methodLink RX8 226 yX0_add ∈ BW := bw_wsL_law_r28 _ (List.mem_of_getElem? (i := 15) rfl)
theorem mw664 : Cond.instanceMethod yX0_add ∈ BW := bw_wsL_law_r28 _ (List.mem_of_getElem? (i := 16) rfl)
theorem mw665 : Cond.selects RX0 yX0_add yX0_add ∈ BW := bw_wsL_law_r28 _ (List.mem_of_getElem? (i := 17) rfl)
theorem mw666 : Cond.code yX0_add cX0_add 3 (some .int) ∈ BW := bw_wsL_law_r28 _ (List.mem_of_getElem? (i := 18) rfl)
theorem mw667 : Cond.methodLink RL 87 yX9_tells ∈ BW := bw_wsL_law_r28 _ (List.mem_of_getElem? (i := 19) rfl)
theorem mw668 : Cond.instanceMethod yX9_tells ∈ BW := bw_wsL_law_r28 _ (List.mem_of_getElem? (i := 20) rfl)
theorem mw669 : Cond.selects RX9 yX9_tells yX9_tells ∈ BW := bw_wsL_law_r28 _ (List.mem_of_getElem? (i := 21) rfl)
theorem mw670 : Cond.code yX9_tells cX9_tells 3 (some .int) ∈ BW := bw_wsL_law_r28 _ (List.mem_of_getElem? (i := 22) rfl)
theorem mw671 : Cond.methodLink RL 88 yX8_record ∈ BW := bw_wsL_law_r28 _ (List.mem_of_getElem? (i := 23) rfl)
theorem mw672 : Cond.instanceMethod yX8_record ∈ BW := bw_wsL_law_r29 _ (List.mem_of_getElem? (i := 0) rfl)
theorem mw673 : Cond.selects RX8 yX8_record yX8_record ∈ BW := bw_wsL_law_r29 _ (List.mem_of_getElem? (i := 1) rfl)
theorem mw674 : Cond.code yX8_record cX8_record 3 (some .int) ∈ BW := bw_wsL_law_r29 _ (List.mem_of_getElem? (i := 2) rfl)
theorem mw675 : Cond.methodLink RL 91 yX9_record ∈ BW := bw_wsL_law_r29 _ (List.mem_of_getElem? (i := 3) rfl)
theorem mw676 : Cond.instanceMethod yX9_record ∈ BW := bw_wsL_law_r29 _ (List.mem_of_getElem? (i := 4) rfl)
theorem mw677 : Cond.selects RX9 yX9_record yX9_record ∈ BW := bw_wsL_law_r29 _ (List.mem_of_getElem? (i := 5) rfl)
theorem mw678 : Cond.code yX9_record cX9_record 3 (some .int) ∈ BW := bw_wsL_law_r29 _ (List.mem_of_getElem? (i := 6) rfl)
theorem mw679 : Cond.methodLink RL 92 yX8_forget ∈ BW := bw_wsL_law_r29 _ (List.mem_of_getElem? (i := 7) rfl)
theorem mw680 : Cond.instanceMethod yX8_forget ∈ BW := bw_wsL_law_r29 _ (List.mem_of_getElem? (i := 8) rfl)
theorem mw681 : Cond.selects RX8 yX8_forget yX8_forget ∈ BW := bw_wsL_law_r29 _ (List.mem_of_getElem? (i := 9) rfl)
theorem mw682 : Cond.code yX8_forget cX8_forget 2 (some .int) ∈ BW := bw_wsL_law_r29 _ (List.mem_of_getElem? (i := 10) rfl)
theorem mw683 : Cond.methodLink RL 95 yX9_forget ∈ BW := bw_wsL_law_r29 _ (List.mem_of_getElem? (i := 11) rfl)
theorem mw684 : Cond.instanceMethod yX9_forget ∈ BW := bw_wsL_law_r29 _ (List.mem_of_getElem? (i := 12) rfl)
theorem mw685 : Cond.selects RX9 yX9_forget yX9_forget ∈ BW := bw_wsL_law_r29 _ (List.mem_of_getElem? (i := 13) rfl)
theorem mw686 : Cond.code yX9_forget cX9_forget 2 (some .int) ∈ BW := bw_wsL_law_r29 _ (List.mem_of_getElem? (i := 14) rfl)
theorem mw687 : Cond.methodLink RL 96 yX8_who ∈ BW := bw_wsL_law_r29 _ (List.mem_of_getElem? (i := 15) rfl)
theorem mw688 : Cond.instanceMethod yX8_who ∈ BW := bw_wsL_law_r29 _ (List.mem_of_getElem? (i := 16) rfl)
theorem mw689 : Cond.selects RX8 yX8_who yX8_who ∈ BW := bw_wsL_law_r29 _ (List.mem_of_getElem? (i := 17) rfl)
theorem mw690 : Cond.code yX8_who cX8_who 4 (some .int) ∈ BW := bw_wsL_law_r29 _ (List.mem_of_getElem? (i := 18) rfl)
theorem mw691 : Cond.fieldLink RX8 235 "OneJohn$Land" "people" "I" ∈ BW := bw_wsL_law_r29 _ (List.mem_of_getElem? (i := 19) rfl)
theorem mw692 : Cond.methodLink RX8 229 yX1_limpingIf ∈ BW := bw_wsL_law_r29 _ (List.mem_of_getElem? (i := 20) rfl)
theorem mw693 : Cond.methodLink RX8 232 yX0_agree ∈ BW := bw_wsL_law_r29 _ (List.mem_of_getElem? (i := 21) rfl)
theorem mw694 : Cond.instanceMethod yX0_agree ∈ BW := bw_wsL_law_r29 _ (List.mem_of_getElem? (i := 22) rfl)
theorem mw695 : Cond.selects RX0 yX0_agree yX0_agree ∈ BW := bw_wsL_law_r29 _ (List.mem_of_getElem? (i := 23) rfl)
theorem mw696 : Cond.code yX0_agree cX0_agree 3 (some .boolean) ∈ BW := bw_wsL_law_r30 _ (List.mem_of_getElem? (i := 0) rfl)
theorem mw697 : Cond.methodLink RL 99 yX9_who ∈ BW := bw_wsL_law_r30 _ (List.mem_of_getElem? (i := 1) rfl)
theorem mw698 : Cond.instanceMethod yX9_who ∈ BW := bw_wsL_law_r30 _ (List.mem_of_getElem? (i := 2) rfl)
theorem mw699 : Cond.selects RX9 yX9_who yX9_who ∈ BW := bw_wsL_law_r30 _ (List.mem_of_getElem? (i := 3) rfl)
theorem mw700 : Cond.code yX9_who cX9_who 3 (some .int) ∈ BW := bw_wsL_law_r30 _ (List.mem_of_getElem? (i := 4) rfl)
theorem mw701 : Cond.methodLink RX9 215 yX9_isAsTold ∈ BW := bw_wsL_law_r30 _ (List.mem_of_getElem? (i := 5) rfl)
theorem mw702 : Cond.instanceMethod yX9_isAsTold ∈ BW := bw_wsL_law_r30 _ (List.mem_of_getElem? (i := 6) rfl)
theorem mw703 : Cond.selects RX9 yX9_isAsTold yX9_isAsTold ∈ BW := bw_wsL_law_r30 _ (List.mem_of_getElem? (i := 7) rfl)
theorem mw704 : Cond.code yX9_isAsTold cX9_isAsTold 3 (some .boolean) ∈ BW := bw_wsL_law_r30 _ (List.mem_of_getElem? (i := 8) rfl)
theorem mw705 : Cond.methodLink RL 100 yX8_which ∈ BW := bw_wsL_law_r30 _ (List.mem_of_getElem? (i := 9) rfl)
theorem mw706 : Cond.instanceMethod yX8_which ∈ BW := bw_wsL_law_r30 _ (List.mem_of_getElem? (i := 10) rfl)
theorem mw707 : Cond.selects RX8 yX8_which yX8_which ∈ BW := bw_wsL_law_r30 _ (List.mem_of_getElem? (i := 11) rfl)
theorem mw708 : Cond.code yX8_which cX8_which 6 (some .int) ∈ BW := bw_wsL_law_r30 _ (List.mem_of_getElem? (i := 12) rfl)
theorem mw709 : Cond.methodLink RX8 238 yX8_allIsSo ∈ BW := bw_wsL_law_r30 _ (List.mem_of_getElem? (i := 13) rfl)
theorem mw710 : Cond.instanceMethod yX8_allIsSo ∈ BW := bw_wsL_law_r30 _ (List.mem_of_getElem? (i := 14) rfl)
theorem mw711 : Cond.selects RX8 yX8_allIsSo yX8_allIsSo ∈ BW := bw_wsL_law_r30 _ (List.mem_of_getElem? (i := 15) rfl)
theorem mw712 : Cond.code yX8_allIsSo cX8_allIsSo 2 (some .boolean) ∈ BW := bw_wsL_law_r30 _ (List.mem_of_getElem? (i := 16) rfl)
theorem mw713 : Cond.methodLink RX8 241 yX1_passing ∈ BW := bw_wsL_law_r30 _ (List.mem_of_getElem? (i := 17) rfl)
theorem mw714 : Cond.instanceMethod yX1_passing ∈ BW := bw_wsL_law_r30 _ (List.mem_of_getElem? (i := 18) rfl)
theorem mw715 : Cond.selects RX1 yX1_passing yX1_passing ∈ BW := bw_wsL_law_r30 _ (List.mem_of_getElem? (i := 19) rfl)
theorem mw716 : Cond.code yX1_passing cX1_passing 4 (some .int) ∈ BW := bw_wsL_law_r30 _ (List.mem_of_getElem? (i := 20) rfl)
theorem mw717 : Cond.methodLink RL 103 yX9_which ∈ BW := bw_wsL_law_r30 _ (List.mem_of_getElem? (i := 21) rfl)
theorem mw718 : Cond.instanceMethod yX9_which ∈ BW := bw_wsL_law_r30 _ (List.mem_of_getElem? (i := 22) rfl)
theorem mw719 : Cond.selects RX9 yX9_which yX9_which ∈ BW := bw_wsL_law_r30 _ (List.mem_of_getElem? (i := 23) rfl)
theorem mw720 : Cond.code yX9_which cX9_which 6 (some .int) ∈ BW := bw_wsL_law_r31 _ (List.mem_of_getElem? (i := 0) rfl)
theorem mw721 : Cond.methodLink RX9 218 yX9_isAsRecorded ∈ BW := bw_wsL_law_r31 _ (List.mem_of_getElem? (i := 1) rfl)
theorem mw722 : Cond.instanceMethod yX9_isAsRecorded ∈ BW := bw_wsL_law_r31 _ (List.mem_of_getElem? (i := 2) rfl)
theorem mw723 : Cond.selects RX9 yX9_isAsRecorded yX9_isAsRecorded ∈ BW := bw_wsL_law_r31 _ (List.mem_of_getElem? (i := 3) rfl)
theorem mw724 : Cond.code yX9_isAsRecorded cX9_isAsRecorded 3 (some .boolean) ∈ BW := bw_wsL_law_r31 _ (List.mem_of_getElem? (i := 4) rfl)
theorem mw725 : Cond.methodLink RL 104 yX8_married ∈ BW := bw_wsL_law_r31 _ (List.mem_of_getElem? (i := 5) rfl)
theorem mw726 : Cond.instanceMethod yX8_married ∈ BW := bw_wsL_law_r31 _ (List.mem_of_getElem? (i := 6) rfl)
theorem mw727 : Cond.selects RX8 yX8_married yX8_married ∈ BW := bw_wsL_law_r31 _ (List.mem_of_getElem? (i := 7) rfl)
theorem mw728 : Cond.code yX8_married cX8_married 2 (some .int) ∈ BW := bw_wsL_law_r31 _ (List.mem_of_getElem? (i := 8) rfl)
theorem mw729 : Cond.fieldLink RX8 245 "OneJohn$Wedding" "most" "I" ∈ BW := bw_wsL_law_r31 _ (List.mem_of_getElem? (i := 9) rfl)
theorem mw730 : Cond.fieldLink RX8 248 "OneJohn$Wedding" "best" "[I" ∈ BW := bw_wsL_law_r31 _ (List.mem_of_getElem? (i := 10) rfl)
theorem mw731 : Cond.methodLink RX8 244 yX7_search ∈ BW := bw_wsL_law_r31 _ (List.mem_of_getElem? (i := 11) rfl)
theorem mw732 : Cond.instanceMethod yX7_search ∈ BW := bw_wsL_law_r31 _ (List.mem_of_getElem? (i := 12) rfl)
theorem mw733 : Cond.selects RX7 yX7_search yX7_search ∈ BW := bw_wsL_law_r31 _ (List.mem_of_getElem? (i := 13) rfl)
theorem mw734 : Cond.code yX7_search cX7_search 3 none ∈ BW := bw_wsL_law_r31 _ (List.mem_of_getElem? (i := 14) rfl)
theorem mw735 : Cond.methodLink RX7 22 yX7_pairFrom ∈ BW := bw_wsL_law_r31 _ (List.mem_of_getElem? (i := 15) rfl)
theorem mw736 : Cond.instanceMethod yX7_pairFrom ∈ BW := bw_wsL_law_r31 _ (List.mem_of_getElem? (i := 16) rfl)
theorem mw737 : Cond.selects RX7 yX7_pairFrom yX7_pairFrom ∈ BW := bw_wsL_law_r31 _ (List.mem_of_getElem? (i := 17) rfl)
theorem mw738 : Cond.code yX7_pairFrom cX7_pairFrom 5 none ∈ BW := bw_wsL_law_r31 _ (List.mem_of_getElem? (i := 18) rfl)
theorem mw739 : Cond.fieldLink RX7 26 "OneJohn$Land" "people" "I" ∈ BW := bw_wsL_law_r31 _ (List.mem_of_getElem? (i := 19) rfl)
theorem mw740 : Cond.methodLink RX7 31 arraycopyName ∈ BW := bw_wsL_law_r31 _ (List.mem_of_getElem? (i := 20) rfl)
theorem mw741 : Cond.methodLink RX7 37 yX7_mayMarry ∈ BW := bw_wsL_law_r31 _ (List.mem_of_getElem? (i := 21) rfl)
theorem mw742 : Cond.static yX7_mayMarry ∈ BW := bw_wsL_law_r31 _ (List.mem_of_getElem? (i := 22) rfl)
theorem mw743 : Cond.code yX7_mayMarry cX7_mayMarry 3 (some .boolean) ∈ BW := bw_wsL_law_r31 _ (List.mem_of_getElem? (i := 23) rfl)
theorem mw744 : Cond.fieldLink RX7 41 "OneJohn$Land" "now" "LOneJohn$Now;" ∈ BW := bw_wsL_law_r32 _ (List.mem_of_getElem? (i := 0) rfl)
theorem mw745 : Cond.fieldLink RX7 45 "OneJohn$Now" "names" "[I" ∈ BW := bw_wsL_law_r32 _ (List.mem_of_getElem? (i := 1) rfl)
theorem mw746 : Cond.methodLink RX7 50 yX1_quarrel ∈ BW := bw_wsL_law_r32 _ (List.mem_of_getElem? (i := 2) rfl)
theorem mw747 : Cond.methodLink RL 107 yX9_married ∈ BW := bw_wsL_law_r32 _ (List.mem_of_getElem? (i := 3) rfl)
theorem mw748 : Cond.instanceMethod yX9_married ∈ BW := bw_wsL_law_r32 _ (List.mem_of_getElem? (i := 4) rfl)
theorem mw749 : Cond.selects RX9 yX9_married yX9_married ∈ BW := bw_wsL_law_r32 _ (List.mem_of_getElem? (i := 5) rfl)
theorem mw750 : Cond.code yX9_married cX9_married 8 (some .int) ∈ BW := bw_wsL_law_r32 _ (List.mem_of_getElem? (i := 6) rfl)
theorem mw751 : Cond.methodLink RX9 225 yX9_pairs ∈ BW := bw_wsL_law_r32 _ (List.mem_of_getElem? (i := 7) rfl)
theorem mw752 : Cond.instanceMethod yX9_pairs ∈ BW := bw_wsL_law_r32 _ (List.mem_of_getElem? (i := 8) rfl)
theorem mw753 : Cond.selects RX9 yX9_pairs yX9_pairs ∈ BW := bw_wsL_law_r32 _ (List.mem_of_getElem? (i := 9) rfl)
theorem mw754 : Cond.code yX9_pairs cX9_pairs 6 none ∈ BW := bw_wsL_law_r32 _ (List.mem_of_getElem? (i := 10) rfl)
theorem mw755 : Cond.methodLink RX9 221 yX9_mayMarry ∈ BW := bw_wsL_law_r32 _ (List.mem_of_getElem? (i := 11) rfl)
theorem mw756 : Cond.instanceMethod yX9_mayMarry ∈ BW := bw_wsL_law_r32 _ (List.mem_of_getElem? (i := 12) rfl)
theorem mw757 : Cond.selects RX9 yX9_mayMarry yX9_mayMarry ∈ BW := bw_wsL_law_r32 _ (List.mem_of_getElem? (i := 13) rfl)
theorem mw758 : Cond.code yX9_mayMarry cX9_mayMarry 3 (some .boolean) ∈ BW := bw_wsL_law_r32 _ (List.mem_of_getElem? (i := 14) rfl)
theorem mw759 : Cond.methodLink RL 108 yX8_odds ∈ BW := bw_wsL_law_r32 _ (List.mem_of_getElem? (i := 15) rfl)
theorem mw760 : Cond.instanceMethod yX8_odds ∈ BW := bw_wsL_law_r32 _ (List.mem_of_getElem? (i := 16) rfl)
theorem mw761 : Cond.selects RX8 yX8_odds yX8_odds ∈ BW := bw_wsL_law_r32 _ (List.mem_of_getElem? (i := 17) rfl)
theorem mw762 : Cond.code yX8_odds cX8_odds 8 (some .int) ∈ BW := bw_wsL_law_r32 _ (List.mem_of_getElem? (i := 18) rfl)
theorem mw763 : Cond.fieldLink RX8 252 "OneJohn$Land" "nameCount" "I" ∈ BW := bw_wsL_law_r32 _ (List.mem_of_getElem? (i := 19) rfl)
theorem mw764 : Cond.methodLink RX8 249 yX8_christenings ∈ BW := bw_wsL_law_r32 _ (List.mem_of_getElem? (i := 20) rfl)
theorem mw765 : Cond.instanceMethod yX8_christenings ∈ BW := bw_wsL_law_r32 _ (List.mem_of_getElem? (i := 21) rfl)
theorem mw766 : Cond.selects RX8 yX8_christenings yX8_christenings ∈ BW := bw_wsL_law_r32 _ (List.mem_of_getElem? (i := 22) rfl)
theorem mw767 : Cond.code yX8_christenings cX8_christenings 5 (some .int) ∈ BW := bw_wsL_law_r32 _ (List.mem_of_getElem? (i := 23) rfl)
theorem mw768 : Cond.methodLink RX8 258 yX8_choices ∈ BW := bw_wsL_law_r33 _ (List.mem_of_getElem? (i := 0) rfl)
theorem mw769 : Cond.static yX8_choices ∈ BW := bw_wsL_law_r33 _ (List.mem_of_getElem? (i := 1) rfl)
theorem mw770 : Cond.code yX8_choices cX8_choices 4 (some .int) ∈ BW := bw_wsL_law_r33 _ (List.mem_of_getElem? (i := 2) rfl)
theorem mw771 : Cond.methodLink RX8 255 yX8_power ∈ BW := bw_wsL_law_r33 _ (List.mem_of_getElem? (i := 3) rfl)
theorem mw772 : Cond.static yX8_power ∈ BW := bw_wsL_law_r33 _ (List.mem_of_getElem? (i := 4) rfl)
theorem mw773 : Cond.code yX8_power cX8_power 4 (some .int) ∈ BW := bw_wsL_law_r33 _ (List.mem_of_getElem? (i := 5) rfl)
theorem mw774 : Cond.methodLink RL 112 yX9_odds ∈ BW := bw_wsL_law_r33 _ (List.mem_of_getElem? (i := 6) rfl)
theorem mw775 : Cond.instanceMethod yX9_odds ∈ BW := bw_wsL_law_r33 _ (List.mem_of_getElem? (i := 7) rfl)
theorem mw776 : Cond.selects RX9 yX9_odds yX9_odds ∈ BW := bw_wsL_law_r33 _ (List.mem_of_getElem? (i := 8) rfl)
theorem mw777 : Cond.code yX9_odds cX9_odds 7 (some .int) ∈ BW := bw_wsL_law_r33 _ (List.mem_of_getElem? (i := 9) rfl)
theorem mw778 : Cond.methodLink RX9 228 yX9_power ∈ BW := bw_wsL_law_r33 _ (List.mem_of_getElem? (i := 10) rfl)
theorem mw779 : Cond.static yX9_power ∈ BW := bw_wsL_law_r33 _ (List.mem_of_getElem? (i := 11) rfl)
theorem mw780 : Cond.code yX9_power cX9_power 4 (some .int) ∈ BW := bw_wsL_law_r33 _ (List.mem_of_getElem? (i := 12) rfl)
theorem mw781 : Cond.methodLink RL 113 yX8_rate ∈ BW := bw_wsL_law_r33 _ (List.mem_of_getElem? (i := 13) rfl)
theorem mw782 : Cond.instanceMethod yX8_rate ∈ BW := bw_wsL_law_r33 _ (List.mem_of_getElem? (i := 14) rfl)
theorem mw783 : Cond.selects RX8 yX8_rate yX8_rate ∈ BW := bw_wsL_law_r33 _ (List.mem_of_getElem? (i := 15) rfl)
theorem mw784 : Cond.code yX8_rate cX8_rate 3 (some .int) ∈ BW := bw_wsL_law_r33 _ (List.mem_of_getElem? (i := 16) rfl)
theorem mw785 : Cond.constant RX8 261 (-1000000) ∈ BW := bw_wsL_law_r33 _ (List.mem_of_getElem? (i := 17) rfl)
theorem mw786 : Cond.methodLink RX8 262 yX8_rateAs ∈ BW := bw_wsL_law_r33 _ (List.mem_of_getElem? (i := 18) rfl)
theorem mw787 : Cond.instanceMethod yX8_rateAs ∈ BW := bw_wsL_law_r33 _ (List.mem_of_getElem? (i := 19) rfl)
theorem mw788 : Cond.selects RX8 yX8_rateAs yX8_rateAs ∈ BW := bw_wsL_law_r33 _ (List.mem_of_getElem? (i := 20) rfl)
theorem mw789 : Cond.code yX8_rateAs cX8_rateAs 3 (some .int) ∈ BW := bw_wsL_law_r33 _ (List.mem_of_getElem? (i := 21) rfl)
theorem mw790 : Cond.fieldLink RX8 265 "OneJohn" "MARKS" "[I" ∈ BW := bw_wsL_law_r33 _ (List.mem_of_getElem? (i := 22) rfl)
theorem mw791 : Cond.methodLink RL 116 yX9_rate ∈ BW := bw_wsL_law_r33 _ (List.mem_of_getElem? (i := 23) rfl)
theorem mw792 : Cond.instanceMethod yX9_rate ∈ BW := bw_wsL_law_r34 _ (List.mem_of_getElem? (i := 0) rfl)
theorem mw793 : Cond.selects RX9 yX9_rate yX9_rate ∈ BW := bw_wsL_law_r34 _ (List.mem_of_getElem? (i := 1) rfl)
theorem mw794 : Cond.code yX9_rate cX9_rate 6 (some .int) ∈ BW := bw_wsL_law_r34 _ (List.mem_of_getElem? (i := 2) rfl)
theorem mw795 : Cond.constant RX9 231 (-1000000) ∈ BW := bw_wsL_law_r34 _ (List.mem_of_getElem? (i := 3) rfl)
theorem mw796 : Cond.fieldLink RX9 232 "OneJohnModel" "trace" "J" ∈ BW := bw_wsL_law_r34 _ (List.mem_of_getElem? (i := 4) rfl)
theorem mw797 : Cond.constantLong RX9 236 (11) ∈ BW := bw_wsL_law_r34 _ (List.mem_of_getElem? (i := 5) rfl)
theorem mw798 : Cond.constantLong RX9 238 (101) ∈ BW := bw_wsL_law_r34 _ (List.mem_of_getElem? (i := 6) rfl)
theorem mw799 : Cond.constantLong RX9 240 (1011) ∈ BW := bw_wsL_law_r34 _ (List.mem_of_getElem? (i := 7) rfl)
theorem mw800 : Cond.constantLong RX9 242 (10101) ∈ BW := bw_wsL_law_r34 _ (List.mem_of_getElem? (i := 8) rfl)
theorem mw801 : Cond.constantLong RX9 244 (100001) ∈ BW := bw_wsL_law_r34 _ (List.mem_of_getElem? (i := 9) rfl)
theorem mw802 : Cond.methodLink RL 117 yX8_keep ∈ BW := bw_wsL_law_r34 _ (List.mem_of_getElem? (i := 10) rfl)
theorem mw803 : Cond.instanceMethod yX8_keep ∈ BW := bw_wsL_law_r34 _ (List.mem_of_getElem? (i := 11) rfl)
theorem mw804 : Cond.selects RX8 yX8_keep yX8_keep ∈ BW := bw_wsL_law_r34 _ (List.mem_of_getElem? (i := 12) rfl)
theorem mw805 : Cond.code yX8_keep cX8_keep 2 (some .int) ∈ BW := bw_wsL_law_r34 _ (List.mem_of_getElem? (i := 13) rfl)
theorem mw806 : Cond.methodLink RX8 268 yX2_take ∈ BW := bw_wsL_law_r34 _ (List.mem_of_getElem? (i := 14) rfl)
theorem mw807 : Cond.methodLink RL 120 yX9_keep ∈ BW := bw_wsL_law_r34 _ (List.mem_of_getElem? (i := 15) rfl)
theorem mw808 : Cond.instanceMethod yX9_keep ∈ BW := bw_wsL_law_r34 _ (List.mem_of_getElem? (i := 16) rfl)
theorem mw809 : Cond.selects RX9 yX9_keep yX9_keep ∈ BW := bw_wsL_law_r34 _ (List.mem_of_getElem? (i := 17) rfl)
theorem mw810 : Cond.code yX9_keep cX9_keep 3 (some .int) ∈ BW := bw_wsL_law_r34 _ (List.mem_of_getElem? (i := 18) rfl)
theorem mw811 : Cond.methodLink RL 121 yX8_back ∈ BW := bw_wsL_law_r34 _ (List.mem_of_getElem? (i := 19) rfl)
theorem mw812 : Cond.instanceMethod yX8_back ∈ BW := bw_wsL_law_r34 _ (List.mem_of_getElem? (i := 20) rfl)
theorem mw813 : Cond.selects RX8 yX8_back yX8_back ∈ BW := bw_wsL_law_r34 _ (List.mem_of_getElem? (i := 21) rfl)
theorem mw814 : Cond.code yX8_back cX8_back 2 (some .int) ∈ BW := bw_wsL_law_r34 _ (List.mem_of_getElem? (i := 22) rfl)
theorem mw815 : Cond.methodLink RL 124 yX9_back ∈ BW := bw_wsL_law_r34 _ (List.mem_of_getElem? (i := 23) rfl)
theorem mw816 : Cond.instanceMethod yX9_back ∈ BW := bw_wsL_law_r35 _ (List.mem_of_getElem? (i := 0) rfl)
theorem mw817 : Cond.selects RX9 yX9_back yX9_back ∈ BW := bw_wsL_law_r35 _ (List.mem_of_getElem? (i := 1) rfl)
theorem mw818 : Cond.code yX9_back cX9_back 3 (some .int) ∈ BW := bw_wsL_law_r35 _ (List.mem_of_getElem? (i := 2) rfl)
theorem mw819 : Cond.methodLink RL 125 yX8_count ∈ BW := bw_wsL_law_r35 _ (List.mem_of_getElem? (i := 3) rfl)
theorem mw820 : Cond.instanceMethod yX8_count ∈ BW := bw_wsL_law_r35 _ (List.mem_of_getElem? (i := 4) rfl)
theorem mw821 : Cond.selects RX8 yX8_count yX8_count ∈ BW := bw_wsL_law_r35 _ (List.mem_of_getElem? (i := 5) rfl)
theorem mw822 : Cond.code yX8_count cX8_count 2 (some .int) ∈ BW := bw_wsL_law_r35 _ (List.mem_of_getElem? (i := 6) rfl)
theorem mw823 : Cond.methodLink RL 128 yX9_count ∈ BW := bw_wsL_law_r35 _ (List.mem_of_getElem? (i := 7) rfl)
theorem mw824 : Cond.instanceMethod yX9_count ∈ BW := bw_wsL_law_r35 _ (List.mem_of_getElem? (i := 8) rfl)
theorem mw825 : Cond.selects RX9 yX9_count yX9_count ∈ BW := bw_wsL_law_r35 _ (List.mem_of_getElem? (i := 9) rfl)
theorem mw826 : Cond.code yX9_count cX9_count 2 (some .int) ∈ BW := bw_wsL_law_r35 _ (List.mem_of_getElem? (i := 10) rfl)
theorem mw827 : Cond.methodLink RL 129 yX8_trace ∈ BW := bw_wsL_law_r35 _ (List.mem_of_getElem? (i := 11) rfl)
theorem mw828 : Cond.instanceMethod yX8_trace ∈ BW := bw_wsL_law_r35 _ (List.mem_of_getElem? (i := 12) rfl)
theorem mw829 : Cond.selects RX8 yX8_trace yX8_trace ∈ BW := bw_wsL_law_r35 _ (List.mem_of_getElem? (i := 13) rfl)
theorem mw830 : Cond.code yX8_trace cX8_trace 1 (some .long) ∈ BW := bw_wsL_law_r35 _ (List.mem_of_getElem? (i := 14) rfl)
theorem mw831 : Cond.methodLink RL 133 yX9_trace ∈ BW := bw_wsL_law_r35 _ (List.mem_of_getElem? (i := 15) rfl)
theorem mw832 : Cond.instanceMethod yX9_trace ∈ BW := bw_wsL_law_r35 _ (List.mem_of_getElem? (i := 16) rfl)
theorem mw833 : Cond.selects RX9 yX9_trace yX9_trace ∈ BW := bw_wsL_law_r35 _ (List.mem_of_getElem? (i := 17) rfl)
theorem mw834 : Cond.code yX9_trace cX9_trace 1 (some .long) ∈ BW := bw_wsL_law_r35 _ (List.mem_of_getElem? (i := 18) rfl)
def nestL : List (String × Nat × MethodName × String) := [(RX8, 9, yX6_init, RX8), (RX8, 18, yX4_init, RX8), (RX4, 11, yX1_init, RX8), (RX1, 23, yX2_init, RX8), (RX8, 25, yX1_init, RX8), (RX3, 24, yX2_init, RX8), (RX8, 39, yX0_init, RX8), (RX8, 49, yX5_init, RX8), (RX8, 56, yX7_init, RX8), (RX8, 75, yX2_init, RX8), (RX4, 89, yX8_within, RX8), (RX1, 66, yX8_within, RX8), (RX1, 70, yX8_bit, RX8), (RX0, 22, yX8_bit, RX8)]
abbrev vwCl : List vw_C := [(RX0, TX0, 3), (RX1, TX1, 6), (RX2, TX2, 7), (RX3, TX3, 3), (RX4, TX4, 6), (RX5, TX5, 3), (RX6, TX6, 2), (RX7, TX7, 3), (RX8, TX8, 11), (RX9, TX9, 29)]
