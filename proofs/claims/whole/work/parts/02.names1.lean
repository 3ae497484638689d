/-! ===== BEGIN words of one list among another's, by their places ===== -/
theorem goodIn_r {big : List Cond} (ws : List Cond) (ps : List Nat) (hp : ws = ps.filterMap (fun i => big[i]?)) (h : ws.all goodWord = true) : GoodIn big ws := by
  intro w hw
  have h1 := List.all_eq_true.mp h w hw
  rw [hp] at hw
  obtain ⟨i, -, hi⟩ := List.mem_filterMap.mp hw
  have hm : w ∈ big := by first | exact List.mem_of_getElem? hi | exact List.getElem?_mem hi
  exact ⟨hm, good_of_word h1⟩
theorem goodIn_app {big a b : List Cond} (ha : GoodIn big a) (hb : GoodIn big b) : GoodIn big (a ++ b) := fun w h => (List.mem_append.mp h).elim (ha w) (hb w)
theorem goodIn_ca {big a b : List Cond} {c : Cond} (ha : GoodIn big (c :: a)) (hb : GoodIn big b) : GoodIn big (c :: (a ++ b)) := fun w h => (List.mem_cons.mp h).elim (fun e => ha w (List.mem_cons.mpr (Or.inl e))) (fun h => (List.mem_append.mp h).elim (fun h => ha w (List.mem_cons.mpr (Or.inr h))) (hb w))
theorem goodIn_sub {big ws : List Cond} (hm : ∀ w ∈ ws, w ∈ big) (h : ws.all goodWord = true) : GoodIn big ws := fun w hw => ⟨hm w hw, good_of_word (List.all_eq_true.mp h w hw)⟩
/-! ===== END ===== -/

/-! ===== BEGIN printed: names, fields, word lists, decode rows ===== -/
def RX0 : String := "FallingWords$History"
def TX0 : u_T := fun k => match k with
  | 0 => ("FallingWords$History", "states", "[LFallingWords$State;", true)
  | _ => ("FallingWords$History", "size", "I", false)
def tyX0 : Nat → FieldType := fun k => match k with
  | 0 => .array (.object "FallingWords$State")
  | _ => .int
abbrev wsX00 : List Cond := u_ws RX0 TX0 2
theorem nmX0 : ∀ a, a < 2 → ∀ b, b < 2 → a ≠ b → (TX0 a).2.1 ≠ (TX0 b).2.1 := by decide +kernel
theorem tyX0_ok : ∀ k, k < 2 → parseFieldDescriptor (TX0 k).2.2.1 = some (tyX0 k) := by decide +kernel
abbrev cX0_init : ByteArray := prog_2_method_1_code
def yX0_init : MethodName := ⟨RX0, "<init>", "()V"⟩
abbrev cX0_keep : ByteArray := prog_2_method_2_code
def yX0_keep : MethodName := ⟨RX0, "keep", "(LFallingWords$State;)V"⟩
abbrev cX0_forgetOldest : ByteArray := prog_2_method_3_code
def yX0_forgetOldest : MethodName := ⟨RX0, "forgetOldest", "()V"⟩
abbrev cX0_restoreTo : ByteArray := prog_2_method_4_code
def yX0_restoreTo : MethodName := ⟨RX0, "restoreTo", "(LFallingWords$State;)V"⟩
def RX1 : String := "FallingWords$Overlaps"
def TX1 : u_T := fun k => match k with
  | 0 => ("FallingWords$Overlaps", "first", "I", false)
  | 1 => ("FallingWords$Overlaps", "second", "I", false)
  | 2 => ("FallingWords$Overlaps", "place", "I", false)
  | 3 => ("FallingWords$Overlaps", "word", "I", false)
  | 4 => ("FallingWords$Overlaps", "firstNormal", "I", false)
  | _ => ("FallingWords$Overlaps", "secondNormal", "I", false)
def tyX1 : Nat → FieldType := fun k => match k with
  | 0 => .int
  | 1 => .int
  | 2 => .int
  | 3 => .int
  | 4 => .int
  | _ => .int
abbrev wsX10 : List Cond := u_ws RX1 TX1 6
theorem nmX1 : ∀ a, a < 6 → ∀ b, b < 6 → a ≠ b → (TX1 a).2.1 ≠ (TX1 b).2.1 := by decide +kernel
theorem tyX1_ok : ∀ k, k < 6 → parseFieldDescriptor (TX1 k).2.2.1 = some (tyX1 k) := by decide +kernel
abbrev cX1_init : ByteArray := prog_3_method_1_code
def yX1_init : MethodName := ⟨RX1, "<init>", "()V"⟩
abbrev cX1_find : ByteArray := prog_3_method_2_code
def yX1_find : MethodName := ⟨RX1, "find", "(LFallingWords$Rules;I)Z"⟩
abbrev cX1_findParting : ByteArray := prog_3_method_3_code
def yX1_findParting : MethodName := ⟨RX1, "findParting", "(LFallingWords$State;LFallingWords$Reduction;)Z"⟩
abbrev cX1_howMany : ByteArray := prog_3_method_4_code
def yX1_howMany : MethodName := ⟨RX1, "howMany", "(LFallingWords$Rules;)I"⟩
abbrev cX1_howManyAre : ByteArray := prog_3_method_5_code
def yX1_howManyAre : MethodName := ⟨RX1, "howManyAre", "(ILFallingWords$State;LFallingWords$Reduction;)I"⟩
abbrev cX1_isOverlap : ByteArray := prog_3_method_6_code
def yX1_isOverlap : MethodName := ⟨RX1, "isOverlap", "(LFallingWords$Rules;I)Z"⟩
abbrev cX1_coveredWord : ByteArray := prog_3_method_7_code
def yX1_coveredWord : MethodName := ⟨RX1, "coveredWord", "(LFallingWords$Rules;I)I"⟩
abbrev cX1_firstWord : ByteArray := prog_3_method_8_code
def yX1_firstWord : MethodName := ⟨RX1, "firstWord", "(LFallingWords$Rules;)I"⟩
abbrev cX1_secondWord : ByteArray := prog_3_method_9_code
def yX1_secondWord : MethodName := ⟨RX1, "secondWord", "(LFallingWords$Rules;)I"⟩
abbrev cX1_verdict : ByteArray := prog_3_method_10_code
def yX1_verdict : MethodName := ⟨RX1, "verdict", "(LFallingWords$State;LFallingWords$Reduction;)I"⟩
def RX2 : String := "FallingWords$Reach"
def TX2 : u_T := fun k => match k with
  | 0 => ("FallingWords$Reach", "words", "[I", true)
  | 1 => ("FallingWords$Reach", "seats", "[I", true)
  | 2 => ("FallingWords$Reach", "size", "I", false)
  | 3 => ("FallingWords$Reach", "tooMany", "Z", false)
  | 4 => ("FallingWords$Reach", "ends", "I", false)
  | 5 => ("FallingWords$Reach", "firstEnd", "I", false)
  | _ => ("FallingWords$Reach", "lastEnd", "I", false)
def tyX2 : Nat → FieldType := fun k => match k with
  | 0 => .array .int
  | 1 => .array .int
  | 2 => .int
  | 3 => .boolean
  | 4 => .int
  | 5 => .int
  | _ => .int
abbrev wsX20 : List Cond := u_ws RX2 TX2 7
theorem nmX2 : ∀ a, a < 7 → ∀ b, b < 7 → a ≠ b → (TX2 a).2.1 ≠ (TX2 b).2.1 := by decide +kernel
theorem tyX2_ok : ∀ k, k < 7 → parseFieldDescriptor (TX2 k).2.2.1 = some (tyX2 k) := by decide +kernel
abbrev cX2_init : ByteArray := prog_4_method_1_code
def yX2_init : MethodName := ⟨RX2, "<init>", "()V"⟩
abbrev cX2_run : ByteArray := prog_4_method_2_code
def yX2_run : MethodName := ⟨RX2, "run", "(LFallingWords$Rules;I)V"⟩
abbrev cX2_addAllFrom : ByteArray := prog_4_method_3_code
def yX2_addAllFrom : MethodName := ⟨RX2, "addAllFrom", "(ILFallingWords$Rules;)V"⟩
abbrev cX2_addEnd : ByteArray := prog_4_method_4_code
def yX2_addEnd : MethodName := ⟨RX2, "addEnd", "(I)V"⟩
abbrev cX2_add : ByteArray := prog_4_method_5_code
def yX2_add : MethodName := ⟨RX2, "add", "(I)V"⟩
def RX3 : String := "FallingWords$Reduction"
def TX3 : u_T := fun k => match k with
  | 0 => ("FallingWords$Reduction", "words", "[I", true)
  | 1 => ("FallingWords$Reduction", "rulesUsed", "[I", true)
  | 2 => ("FallingWords$Reduction", "outcome", "I", false)
  | 3 => ("FallingWords$Reduction", "steps", "I", false)
  | _ => ("FallingWords$Reduction", "ringStart", "I", false)
def tyX3 : Nat → FieldType := fun k => match k with
  | 0 => .array .int
  | 1 => .array .int
  | 2 => .int
  | 3 => .int
  | _ => .int
abbrev wsX30 : List Cond := u_ws RX3 TX3 5
theorem nmX3 : ∀ a, a < 5 → ∀ b, b < 5 → a ≠ b → (TX3 a).2.1 ≠ (TX3 b).2.1 := by decide +kernel
theorem tyX3_ok : ∀ k, k < 5 → parseFieldDescriptor (TX3 k).2.2.1 = some (tyX3 k) := by decide +kernel
abbrev cX3_init : ByteArray := prog_5_method_1_code
def yX3_init : MethodName := ⟨RX3, "<init>", "()V"⟩
abbrev cX3_run : ByteArray := prog_5_method_2_code
def yX3_run : MethodName := ⟨RX3, "run", "(LFallingWords$Rules;II)V"⟩
abbrev cX3_firstTimeOf : ByteArray := prog_5_method_3_code
def yX3_firstTimeOf : MethodName := ⟨RX3, "firstTimeOf", "(I)I"⟩
abbrev cX3_last : ByteArray := prog_5_method_4_code
def yX3_last : MethodName := ⟨RX3, "last", "()I"⟩
abbrev cX3_countRules : ByteArray := prog_5_method_5_code
def yX3_countRules : MethodName := ⟨RX3, "countRules", "(LFallingWords$Rules;)V"⟩
def RX4 : String := "FallingWords$Rules"
def TX4 : u_T := fun k => match k with
  | 0 => ("FallingWords$Rules", "left", "[I", true)
  | 1 => ("FallingWords$Rules", "right", "[I", true)
  | 2 => ("FallingWords$Rules", "leftLength", "[I", true)
  | 3 => ("FallingWords$Rules", "rightLength", "[I", true)
  | 4 => ("FallingWords$Rules", "times", "[I", true)
  | _ => ("FallingWords$Rules", "size", "I", false)
def tyX4 : Nat → FieldType := fun k => match k with
  | 0 => .array .int
  | 1 => .array .int
  | 2 => .array .int
  | 3 => .array .int
  | 4 => .array .int
  | _ => .int
abbrev wsX40 : List Cond := u_ws RX4 TX4 6
theorem nmX4 : ∀ a, a < 6 → ∀ b, b < 6 → a ≠ b → (TX4 a).2.1 ≠ (TX4 b).2.1 := by decide +kernel
theorem tyX4_ok : ∀ k, k < 6 → parseFieldDescriptor (TX4 k).2.2.1 = some (tyX4 k) := by decide +kernel
abbrev cX4_init : ByteArray := prog_6_method_1_code
def yX4_init : MethodName := ⟨RX4, "<init>", "()V"⟩
abbrev cX4_takeOver : ByteArray := prog_6_method_2_code
def yX4_takeOver : MethodName := ⟨RX4, "takeOver", "(LFallingWords$Rules;)V"⟩
abbrev cX4_contains : ByteArray := prog_6_method_3_code
def yX4_contains : MethodName := ⟨RX4, "contains", "(I)Z"⟩
abbrev cX4_isFull : ByteArray := prog_6_method_4_code
def yX4_isFull : MethodName := ⟨RX4, "isFull", "()Z"⟩
abbrev cX4_hasSides : ByteArray := prog_6_method_5_code
def yX4_hasSides : MethodName := ⟨RX4, "hasSides", "(II)Z"⟩
abbrev cX4_add : ByteArray := prog_6_method_6_code
def yX4_add : MethodName := ⟨RX4, "add", "(II)V"⟩
abbrev cX4_remove : ByteArray := prog_6_method_7_code
def yX4_remove : MethodName := ⟨RX4, "remove", "(I)V"⟩
abbrev cX4_appliesAt : ByteArray := prog_6_method_8_code
def yX4_appliesAt : MethodName := ⟨RX4, "appliesAt", "(IIII)Z"⟩
abbrev cX4_placesIn : ByteArray := prog_6_method_9_code
def yX4_placesIn : MethodName := ⟨RX4, "placesIn", "(II)I"⟩
abbrev cX4_choiceFor : ByteArray := prog_6_method_10_code
def yX4_choiceFor : MethodName := ⟨RX4, "choiceFor", "(II)I"⟩
abbrev cX4_ruleIn : ByteArray := prog_6_method_11_code
def yX4_ruleIn : MethodName := ⟨RX4, "ruleIn", "(I)I"⟩
abbrev cX4_placeIn : ByteArray := prog_6_method_12_code
def yX4_placeIn : MethodName := ⟨RX4, "placeIn", "(I)I"⟩
abbrev cX4_applied : ByteArray := prog_6_method_13_code
def yX4_applied : MethodName := ⟨RX4, "applied", "(III)I"⟩
def RX5 : String := "FallingWords$Script"
def TX5 : u_T := fun k => match k with
  | 0 => ("FallingWords$Script", "done", "I", false)
  | 1 => ("FallingWords$Script", "position", "I", false)
  | 2 => ("FallingWords$Script", "reason", "I", false)
  | _ => ("FallingWords$Script", "cause", "I", false)
def tyX5 : Nat → FieldType := fun k => match k with
  | 0 => .int
  | 1 => .int
  | 2 => .int
  | _ => .int
abbrev wsX50 : List Cond := u_ws RX5 TX5 4
theorem nmX5 : ∀ a, a < 4 → ∀ b, b < 4 → a ≠ b → (TX5 a).2.1 ≠ (TX5 b).2.1 := by decide +kernel
theorem tyX5_ok : ∀ k, k < 4 → parseFieldDescriptor (TX5 k).2.2.1 = some (tyX5 k) := by decide +kernel
abbrev cX5_init : ByteArray := prog_7_method_1_code
def yX5_init : MethodName := ⟨RX5, "<init>", "()V"⟩
abbrev cX5_run : ByteArray := prog_7_method_2_code
def yX5_run : MethodName := ⟨RX5, "run", "(LFallingWords$Text;LFallingWords$State;LFallingWords$Reduction;)V"⟩
abbrev cX5_failWith : ByteArray := prog_7_method_3_code
def yX5_failWith : MethodName := ⟨RX5, "failWith", "(II)V"⟩
abbrev cX5_perform : ByteArray := prog_7_method_4_code
def yX5_perform : MethodName := ⟨RX5, "perform", "(LFallingWords$Text;LFallingWords$State;LFallingWords$Reduction;)V"⟩
abbrev cX5_addRule : ByteArray := prog_7_method_5_code
def yX5_addRule : MethodName := ⟨RX5, "addRule", "(IILFallingWords$State;)V"⟩
abbrev cX5_removeRule : ByteArray := prog_7_method_6_code
def yX5_removeRule : MethodName := ⟨RX5, "removeRule", "(ILFallingWords$State;)V"⟩
abbrev cX5_setWord : ByteArray := prog_7_method_7_code
def yX5_setWord : MethodName := ⟨RX5, "setWord", "(ILFallingWords$State;)V"⟩
abbrev cX5_setChoosing : ByteArray := prog_7_method_8_code
def yX5_setChoosing : MethodName := ⟨RX5, "setChoosing", "(ILFallingWords$State;)V"⟩
def RX6 : String := "FallingWords$State"
def TX6 : u_T := fun k => match k with
  | 0 => ("FallingWords$State", "rules", "LFallingWords$Rules;", true)
  | 1 => ("FallingWords$State", "store", "LFallingWords$Store;", true)
  | 2 => ("FallingWords$State", "word", "I", false)
  | 3 => ("FallingWords$State", "choosing", "I", false)
  | 4 => ("FallingWords$State", "taken", "I", false)
  | _ => ("FallingWords$State", "steps", "I", false)
def tyX6 : Nat → FieldType := fun k => match k with
  | 0 => .object "FallingWords$Rules"
  | 1 => .object "FallingWords$Store"
  | 2 => .int
  | 3 => .int
  | 4 => .int
  | _ => .int
abbrev wsX60 : List Cond := u_ws RX6 TX6 6
theorem nmX6 : ∀ a, a < 6 → ∀ b, b < 6 → a ≠ b → (TX6 a).2.1 ≠ (TX6 b).2.1 := by decide +kernel
theorem tyX6_ok : ∀ k, k < 6 → parseFieldDescriptor (TX6 k).2.2.1 = some (tyX6 k) := by decide +kernel
abbrev cX6_init : ByteArray := prog_8_method_1_code
def yX6_init : MethodName := ⟨RX6, "<init>", "()V"⟩
abbrev cX6_takeOver : ByteArray := prog_8_method_2_code
def yX6_takeOver : MethodName := ⟨RX6, "takeOver", "(LFallingWords$State;)V"⟩
abbrev cX6_addRule : ByteArray := prog_8_method_3_code
def yX6_addRule : MethodName := ⟨RX6, "addRule", "(II)V"⟩
abbrev cX6_removeRule : ByteArray := prog_8_method_4_code
def yX6_removeRule : MethodName := ⟨RX6, "removeRule", "(I)V"⟩
abbrev cX6_setChoosing : ByteArray := prog_8_method_5_code
def yX6_setChoosing : MethodName := ⟨RX6, "setChoosing", "(I)V"⟩
abbrev cX6_takeStep : ByteArray := prog_8_method_6_code
def yX6_takeStep : MethodName := ⟨RX6, "takeStep", "()I"⟩
abbrev cX6_reduce : ByteArray := prog_8_method_7_code
def yX6_reduce : MethodName := ⟨RX6, "reduce", "(LFallingWords$Reduction;)I"⟩
def RX7 : String := "FallingWords$Store"
def TX7 : u_T := fun k => match k with
  | 0 => ("FallingWords$Store", "words", "[I", true)
  | 1 => ("FallingWords$Store", "normals", "[I", true)
  | _ => ("FallingWords$Store", "size", "I", false)
def tyX7 : Nat → FieldType := fun k => match k with
  | 0 => .array .int
  | 1 => .array .int
  | _ => .int
abbrev wsX70 : List Cond := u_ws RX7 TX7 3
theorem nmX7 : ∀ a, a < 3 → ∀ b, b < 3 → a ≠ b → (TX7 a).2.1 ≠ (TX7 b).2.1 := by decide +kernel
theorem tyX7_ok : ∀ k, k < 3 → parseFieldDescriptor (TX7 k).2.2.1 = some (tyX7 k) := by decide +kernel
abbrev cX7_init : ByteArray := prog_9_method_1_code
def yX7_init : MethodName := ⟨RX7, "<init>", "()V"⟩
abbrev cX7_takeOver : ByteArray := prog_9_method_2_code
def yX7_takeOver : MethodName := ⟨RX7, "takeOver", "(LFallingWords$Store;)V"⟩
abbrev cX7_indexOf : ByteArray := prog_9_method_3_code
def yX7_indexOf : MethodName := ⟨RX7, "indexOf", "(I)I"⟩
abbrev cX7_put : ByteArray := prog_9_method_4_code
def yX7_put : MethodName := ⟨RX7, "put", "(II)V"⟩
abbrev cX7_use : ByteArray := prog_9_method_5_code
def yX7_use : MethodName := ⟨RX7, "use", "(I)I"⟩
abbrev cX7_setAhead : ByteArray := prog_9_method_6_code
def yX7_setAhead : MethodName := ⟨RX7, "setAhead", "(III)V"⟩
def RX8 : String := "FallingWords$Text"
def TX8 : u_T := fun k => match k with
  | 0 => ("FallingWords$Text", "characters", "[C", true)
  | 1 => ("FallingWords$Text", "size", "I", false)
  | 2 => ("FallingWords$Text", "at", "I", false)
  | 3 => ("FallingWords$Text", "kind", "I", false)
  | 4 => ("FallingWords$Text", "firstWord", "I", false)
  | 5 => ("FallingWords$Text", "secondWord", "I", false)
  | _ => ("FallingWords$Text", "digit", "I", false)
def tyX8 : Nat → FieldType := fun k => match k with
  | 0 => .array .char
  | 1 => .int
  | 2 => .int
  | 3 => .int
  | 4 => .int
  | 5 => .int
  | _ => .int
abbrev wsX80 : List Cond := u_ws RX8 TX8 7
theorem nmX8 : ∀ a, a < 7 → ∀ b, b < 7 → a ≠ b → (TX8 a).2.1 ≠ (TX8 b).2.1 := by decide +kernel
theorem tyX8_ok : ∀ k, k < 7 → parseFieldDescriptor (TX8 k).2.2.1 = some (tyX8 k) := by decide +kernel
abbrev cX8_init : ByteArray := prog_10_method_1_code
def yX8_init : MethodName := ⟨RX8, "<init>", "()V"⟩
abbrev cX8_isFull : ByteArray := prog_10_method_2_code
def yX8_isFull : MethodName := ⟨RX8, "isFull", "()Z"⟩
abbrev cX8_append : ByteArray := prog_10_method_3_code
def yX8_append : MethodName := ⟨RX8, "append", "(I)V"⟩
abbrev cX8_readCommand : ByteArray := prog_10_method_4_code
def yX8_readCommand : MethodName := ⟨RX8, "readCommand", "(I)Z"⟩
abbrev cX8_here : ByteArray := prog_10_method_5_code
def yX8_here : MethodName := ⟨RX8, "here", "()I"⟩
abbrev cX8_passes : ByteArray := prog_10_method_6_code
def yX8_passes : MethodName := ⟨RX8, "passes", "(I)Z"⟩
abbrev cX8_readDigit : ByteArray := prog_10_method_7_code
def yX8_readDigit : MethodName := ⟨RX8, "readDigit", "()Z"⟩
abbrev cX8_readWord : ByteArray := prog_10_method_8_code
def yX8_readWord : MethodName := ⟨RX8, "readWord", "()I"⟩
def RX9 : String := "FallingWords$Words"
def TX9 : u_T := fun k => match k with
  | _ => ("", "", "", false)
def tyX9 : Nat → FieldType := fun k => match k with
  | _ => .int
abbrev wsX90 : List Cond := u_ws RX9 TX9 0
theorem nmX9 : ∀ a, a < 0 → ∀ b, b < 0 → a ≠ b → (TX9 a).2.1 ≠ (TX9 b).2.1 := by decide +kernel
theorem tyX9_ok : ∀ k, k < 0 → parseFieldDescriptor (TX9 k).2.2.1 = some (tyX9 k) := by decide +kernel
abbrev cX9_lengthOf : ByteArray := prog_11_method_2_code
def yX9_lengthOf : MethodName := ⟨RX9, "lengthOf", "(I)I"⟩
abbrev cX9_letterOf : ByteArray := prog_11_method_3_code
def yX9_letterOf : MethodName := ⟨RX9, "letterOf", "(II)I"⟩
abbrev cX9_withLetter : ByteArray := prog_11_method_4_code
def yX9_withLetter : MethodName := ⟨RX9, "withLetter", "(II)I"⟩
abbrev cX9_lastBits : ByteArray := prog_11_method_5_code
def yX9_lastBits : MethodName := ⟨RX9, "lastBits", "(II)I"⟩
def RX10 : String := "FallingWords"
def TX10 : u_T := fun k => match k with
  | 0 => ("FallingWords", "now", "LFallingWords$State;", true)
  | 1 => ("FallingWords", "trial", "LFallingWords$State;", true)
  | 2 => ("FallingWords", "history", "LFallingWords$History;", true)
  | 3 => ("FallingWords", "reduction", "LFallingWords$Reduction;", true)
  | 4 => ("FallingWords", "reach", "LFallingWords$Reach;", true)
  | 5 => ("FallingWords", "overlaps", "LFallingWords$Overlaps;", true)
  | 6 => ("FallingWords", "text", "LFallingWords$Text;", true)
  | _ => ("FallingWords", "script", "LFallingWords$Script;", true)
def tyX10 : Nat → FieldType := fun k => match k with
  | 0 => .object "FallingWords$State"
  | 1 => .object "FallingWords$State"
  | 2 => .object "FallingWords$History"
  | 3 => .object "FallingWords$Reduction"
  | 4 => .object "FallingWords$Reach"
  | 5 => .object "FallingWords$Overlaps"
  | 6 => .object "FallingWords$Text"
  | _ => .object "FallingWords$Script"
abbrev wsX100 : List Cond := u_ws RX10 TX10 8
theorem nmX10 : ∀ a, a < 8 → ∀ b, b < 8 → a ≠ b → (TX10 a).2.1 ≠ (TX10 b).2.1 := by decide +kernel
theorem tyX10_ok : ∀ k, k < 8 → parseFieldDescriptor (TX10 k).2.2.1 = some (tyX10 k) := by decide +kernel
abbrev cX10_init : ByteArray := prog_1_method_1_code
def yX10_init : MethodName := ⟨RX10, "<init>", "()V"⟩
abbrev cX10_drop : ByteArray := prog_1_method_2_code
def yX10_drop : MethodName := ⟨RX10, "drop", "(I)I"⟩
abbrev cX10_way : ByteArray := prog_1_method_3_code
def yX10_way : MethodName := ⟨RX10, "way", "(I)I"⟩
abbrev cX10_ruleOf : ByteArray := prog_1_method_4_code
def yX10_ruleOf : MethodName := ⟨RX10, "ruleOf", "(II)I"⟩
abbrev cX10_step : ByteArray := prog_1_method_5_code
def yX10_step : MethodName := ⟨RX10, "step", "()I"⟩
abbrev cX10_normal : ByteArray := prog_1_method_6_code
def yX10_normal : MethodName := ⟨RX10, "normal", "()I"⟩
abbrev cX10_letterAt : ByteArray := prog_1_method_7_code
def yX10_letterAt : MethodName := ⟨RX10, "letterAt", "(I)I"⟩
abbrev cX10_next : ByteArray := prog_1_method_8_code
def yX10_next : MethodName := ⟨RX10, "next", "(I)I"⟩
abbrev cX10_reduced : ByteArray := prog_1_method_9_code
def yX10_reduced : MethodName := ⟨RX10, "reduced", "(I)I"⟩
abbrev cX10_ringAnswer : ByteArray := prog_1_method_10_code
def yX10_ringAnswer : MethodName := ⟨RX10, "ringAnswer", "(I)I"⟩
abbrev cX10_reached : ByteArray := prog_1_method_11_code
def yX10_reached : MethodName := ⟨RX10, "reached", "(I)I"⟩
abbrev cX10_storeOf : ByteArray := prog_1_method_12_code
def yX10_storeOf : MethodName := ⟨RX10, "storeOf", "(II)I"⟩
abbrev cX10_overlapOf : ByteArray := prog_1_method_13_code
def yX10_overlapOf : MethodName := ⟨RX10, "overlapOf", "(II)I"⟩
abbrev cX10_complete : ByteArray := prog_1_method_14_code
def yX10_complete : MethodName := ⟨RX10, "complete", "(I)I"⟩
abbrev cX10_count : ByteArray := prog_1_method_15_code
def yX10_count : MethodName := ⟨RX10, "count", "(I)I"⟩
abbrev cX10_undo : ByteArray := prog_1_method_16_code
def yX10_undo : MethodName := ⟨RX10, "undo", "()I"⟩
abbrev cX10_type : ByteArray := prog_1_method_17_code
def yX10_type : MethodName := ⟨RX10, "type", "(I)I"⟩
abbrev cX10_clearText : ByteArray := prog_1_method_18_code
def yX10_clearText : MethodName := ⟨RX10, "clearText", "()I"⟩
abbrev cX10_fault : ByteArray := prog_1_method_19_code
def yX10_fault : MethodName := ⟨RX10, "fault", "(I)I"⟩
abbrev cX10_play : ByteArray := prog_1_method_20_code
def yX10_play : MethodName := ⟨RX10, "play", "()I"⟩
abbrev cX10_startTrial : ByteArray := prog_1_method_21_code
def yX10_startTrial : MethodName := ⟨RX10, "startTrial", "()V"⟩
abbrev cX10_keepTrial : ByteArray := prog_1_method_22_code
def yX10_keepTrial : MethodName := ⟨RX10, "keepTrial", "()V"⟩
abbrev cX10_isLetterOf : ByteArray := prog_1_method_23_code
def yX10_isLetterOf : MethodName := ⟨RX10, "isLetterOf", "(III)Z"⟩
def RX11 : String := "FallingWordsModel"
def TX11 : u_T := fun k => match k with
  | 0 => ("FallingWordsModel", "s", "[I", true)
  | 1 => ("FallingWordsModel", "was", "[I", true)
  | 2 => ("FallingWordsModel", "begun", "[I", true)
  | 3 => ("FallingWordsModel", "aside", "[I", true)
  | 4 => ("FallingWordsModel", "states", "I", false)
  | 5 => ("FallingWordsModel", "text", "[C", true)
  | 6 => ("FallingWordsModel", "typed", "I", false)
  | 7 => ("FallingWordsModel", "at", "I", false)
  | 8 => ("FallingWordsModel", "reason", "I", false)
  | 9 => ("FallingWordsModel", "cause", "I", false)
  | 10 => ("FallingWordsModel", "read", "I", false)
  | 11 => ("FallingWordsModel", "readLength", "I", false)
  | 12 => ("FallingWordsModel", "chosenRule", "I", false)
  | 13 => ("FallingWordsModel", "chosenPlace", "I", false)
  | 14 => ("FallingWordsModel", "row", "[I", true)
  | 15 => ("FallingWordsModel", "rowRule", "[I", true)
  | 16 => ("FallingWordsModel", "rowSteps", "I", false)
  | 17 => ("FallingWordsModel", "ringFrom", "I", false)
  | 18 => ("FallingWordsModel", "found", "[I", true)
  | 19 => ("FallingWordsModel", "many", "I", false)
  | 20 => ("FallingWordsModel", "oneRule", "I", false)
  | 21 => ("FallingWordsModel", "otherRule", "I", false)
  | 22 => ("FallingWordsModel", "overlapPlace", "I", false)
  | 23 => ("FallingWordsModel", "oneWord", "I", false)
  | 24 => ("FallingWordsModel", "otherWord", "I", false)
  | 25 => ("FallingWordsModel", "oneNormal", "I", false)
  | _ => ("FallingWordsModel", "otherNormal", "I", false)
def tyX11 : Nat → FieldType := fun k => match k with
  | 0 => .array .int
  | 1 => .array .int
  | 2 => .array .int
  | 3 => .array .int
  | 4 => .int
  | 5 => .array .char
  | 6 => .int
  | 7 => .int
  | 8 => .int
  | 9 => .int
  | 10 => .int
  | 11 => .int
  | 12 => .int
  | 13 => .int
  | 14 => .array .int
  | 15 => .array .int
  | 16 => .int
  | 17 => .int
  | 18 => .array .int
  | 19 => .int
  | 20 => .int
  | 21 => .int
  | 22 => .int
  | 23 => .int
  | 24 => .int
  | 25 => .int
  | _ => .int
abbrev wsX110 : List Cond := u_ws RX11 TX11 27
theorem nmX11 : ∀ a, a < 27 → ∀ b, b < 27 → a ≠ b → (TX11 a).2.1 ≠ (TX11 b).2.1 := by decide +kernel
theorem tyX11_ok : ∀ k, k < 27 → parseFieldDescriptor (TX11 k).2.2.1 = some (tyX11 k) := by decide +kernel
abbrev cX11_init : ByteArray := prog_13_method_1_code
def yX11_init : MethodName := ⟨RX11, "<init>", "()V"⟩
abbrev cX11_in : ByteArray := prog_13_method_2_code
def yX11_in : MethodName := ⟨RX11, "in", "(III)Z"⟩
abbrev cX11_length : ByteArray := prog_13_method_3_code
def yX11_length : MethodName := ⟨RX11, "length", "(I)I"⟩
abbrev cX11_letter : ByteArray := prog_13_method_4_code
def yX11_letter : MethodName := ⟨RX11, "letter", "(II)I"⟩
abbrev cX11_letterOf : ByteArray := prog_13_method_5_code
def yX11_letterOf : MethodName := ⟨RX11, "letterOf", "(II)I"⟩
abbrev cX11_left : ByteArray := prog_13_method_6_code
def yX11_left : MethodName := ⟨RX11, "left", "(I)I"⟩
abbrev cX11_right : ByteArray := prog_13_method_7_code
def yX11_right : MethodName := ⟨RX11, "right", "(I)I"⟩
abbrev cX11_isRule : ByteArray := prog_13_method_8_code
def yX11_isRule : MethodName := ⟨RX11, "isRule", "(I)Z"⟩
abbrev cX11_stands : ByteArray := prog_13_method_9_code
def yX11_stands : MethodName := ⟨RX11, "stands", "(III)Z"⟩
abbrev cX11_applied : ByteArray := prog_13_method_10_code
def yX11_applied : MethodName := ⟨RX11, "applied", "(III)I"⟩
abbrev cX11_chooses : ByteArray := prog_13_method_11_code
def yX11_chooses : MethodName := ⟨RX11, "chooses", "(I)Z"⟩
abbrev cX11_reduces : ByteArray := prog_13_method_12_code
def yX11_reduces : MethodName := ⟨RX11, "reduces", "(I)I"⟩
abbrev cX11_keeps : ByteArray := prog_13_method_13_code
def yX11_keeps : MethodName := ⟨RX11, "keeps", "()V"⟩
abbrev cX11_acted : ByteArray := prog_13_method_14_code
def yX11_acted : MethodName := ⟨RX11, "acted", "(I)I"⟩
abbrev cX11_drops : ByteArray := prog_13_method_15_code
def yX11_drops : MethodName := ⟨RX11, "drops", "(I)I"⟩
abbrev cX11_drop : ByteArray := prog_13_method_16_code
def yX11_drop : MethodName := ⟨RX11, "drop", "(I)I"⟩
abbrev cX11_goes : ByteArray := prog_13_method_17_code
def yX11_goes : MethodName := ⟨RX11, "goes", "(I)I"⟩
abbrev cX11_way : ByteArray := prog_13_method_18_code
def yX11_way : MethodName := ⟨RX11, "way", "(I)I"⟩
abbrev cX11_adds : ByteArray := prog_13_method_19_code
def yX11_adds : MethodName := ⟨RX11, "adds", "(II)V"⟩
abbrev cX11_places : ByteArray := prog_13_method_20_code
def yX11_places : MethodName := ⟨RX11, "places", "(I)I"⟩
abbrev cX11_ruleOf : ByteArray := prog_13_method_21_code
def yX11_ruleOf : MethodName := ⟨RX11, "ruleOf", "(II)I"⟩
abbrev cX11_steps : ByteArray := prog_13_method_22_code
def yX11_steps : MethodName := ⟨RX11, "steps", "()I"⟩
abbrev cX11_step : ByteArray := prog_13_method_23_code
def yX11_step : MethodName := ⟨RX11, "step", "()I"⟩
abbrev cX11_comesFirst : ByteArray := prog_13_method_24_code
def yX11_comesFirst : MethodName := ⟨RX11, "comesFirst", "(III)V"⟩
abbrev cX11_normals : ByteArray := prog_13_method_25_code
def yX11_normals : MethodName := ⟨RX11, "normals", "()I"⟩
abbrev cX11_normal : ByteArray := prog_13_method_26_code
def yX11_normal : MethodName := ⟨RX11, "normal", "()I"⟩
abbrev cX11_letterAt : ByteArray := prog_13_method_27_code
def yX11_letterAt : MethodName := ⟨RX11, "letterAt", "(I)I"⟩
abbrev cX11_next : ByteArray := prog_13_method_28_code
def yX11_next : MethodName := ⟨RX11, "next", "(I)I"⟩
abbrev cX11_reduced : ByteArray := prog_13_method_29_code
def yX11_reduced : MethodName := ⟨RX11, "reduced", "(I)I"⟩
abbrev cX11_reaches : ByteArray := prog_13_method_30_code
def yX11_reaches : MethodName := ⟨RX11, "reaches", "(I)V"⟩
abbrev cX11_reachesAll : ByteArray := prog_13_method_31_code
def yX11_reachesAll : MethodName := ⟨RX11, "reachesAll", "()V"⟩
abbrev cX11_end : ByteArray := prog_13_method_32_code
def yX11_end : MethodName := ⟨RX11, "end", "(Z)I"⟩
abbrev cX11_ends : ByteArray := prog_13_method_33_code
def yX11_ends : MethodName := ⟨RX11, "ends", "()I"⟩
abbrev cX11_reached : ByteArray := prog_13_method_34_code
def yX11_reached : MethodName := ⟨RX11, "reached", "(I)I"⟩
abbrev cX11_storeOf : ByteArray := prog_13_method_35_code
def yX11_storeOf : MethodName := ⟨RX11, "storeOf", "(II)I"⟩
abbrev cX11_isOverlap : ByteArray := prog_13_method_36_code
def yX11_isOverlap : MethodName := ⟨RX11, "isOverlap", "(III)Z"⟩
abbrev cX11_lays : ByteArray := prog_13_method_37_code
def yX11_lays : MethodName := ⟨RX11, "lays", "(III)V"⟩
abbrev cX11_parts : ByteArray := prog_13_method_38_code
def yX11_parts : MethodName := ⟨RX11, "parts", "()I"⟩
abbrev cX11_finds : ByteArray := prog_13_method_39_code
def yX11_finds : MethodName := ⟨RX11, "finds", "(II)I"⟩
abbrev cX11_overlapOf : ByteArray := prog_13_method_40_code
def yX11_overlapOf : MethodName := ⟨RX11, "overlapOf", "(II)I"⟩
abbrev cX11_completes : ByteArray := prog_13_method_41_code
def yX11_completes : MethodName := ⟨RX11, "completes", "(I)I"⟩
abbrev cX11_complete : ByteArray := prog_13_method_42_code
def yX11_complete : MethodName := ⟨RX11, "complete", "(I)I"⟩
abbrev cX11_count : ByteArray := prog_13_method_43_code
def yX11_count : MethodName := ⟨RX11, "count", "(I)I"⟩
abbrev cX11_undo : ByteArray := prog_13_method_44_code
def yX11_undo : MethodName := ⟨RX11, "undo", "()I"⟩
abbrev cX11_type : ByteArray := prog_13_method_45_code
def yX11_type : MethodName := ⟨RX11, "type", "(I)I"⟩
abbrev cX11_clearText : ByteArray := prog_13_method_46_code
def yX11_clearText : MethodName := ⟨RX11, "clearText", "()I"⟩
abbrev cX11_sign : ByteArray := prog_13_method_47_code
def yX11_sign : MethodName := ⟨RX11, "sign", "()I"⟩
abbrev cX11_takes : ByteArray := prog_13_method_48_code
def yX11_takes : MethodName := ⟨RX11, "takes", "(C)Z"⟩
abbrev cX11_readsWord : ByteArray := prog_13_method_49_code
def yX11_readsWord : MethodName := ⟨RX11, "readsWord", "()V"⟩
abbrev cX11_says : ByteArray := prog_13_method_50_code
def yX11_says : MethodName := ⟨RX11, "says", "(II)I"⟩
abbrev cX11_readsRule : ByteArray := prog_13_method_51_code
def yX11_readsRule : MethodName := ⟨RX11, "readsRule", "(I)I"⟩
abbrev cX11_readsDigit : ByteArray := prog_13_method_52_code
def yX11_readsDigit : MethodName := ⟨RX11, "readsDigit", "(IZ)I"⟩
abbrev cX11_readsSet : ByteArray := prog_13_method_53_code
def yX11_readsSet : MethodName := ⟨RX11, "readsSet", "(I)I"⟩
abbrev cX11_readsDeed : ByteArray := prog_13_method_54_code
def yX11_readsDeed : MethodName := ⟨RX11, "readsDeed", "(IZ)I"⟩
abbrev cX11_doesNext : ByteArray := prog_13_method_55_code
def yX11_doesNext : MethodName := ⟨RX11, "doesNext", "()I"⟩
abbrev cX11_faulty : ByteArray := prog_13_method_56_code
def yX11_faulty : MethodName := ⟨RX11, "faulty", "()I"⟩
abbrev cX11_fault : ByteArray := prog_13_method_57_code
def yX11_fault : MethodName := ⟨RX11, "fault", "(I)I"⟩
abbrev cX11_play : ByteArray := prog_13_method_58_code
def yX11_play : MethodName := ⟨RX11, "play", "()I"⟩
def RJ9 : String := "java/lang/Math"
def TJ9 : u_T := fun k => match k with
  | _ => ("", "", "", false)
def tyJ9 : Nat → FieldType := fun k => match k with
  | _ => .int
abbrev wsJ90 : List Cond := u_ws RJ9 TJ9 0
theorem nmJ9 : ∀ a, a < 0 → ∀ b, b < 0 → a ≠ b → (TJ9 a).2.1 ≠ (TJ9 b).2.1 := by decide +kernel
theorem tyJ9_ok : ∀ k, k < 0 → parseFieldDescriptor (TJ9 k).2.2.1 = some (tyJ9 k) := by decide +kernel
abbrev cJ9_max_7cf53 : ByteArray := prog_14_method_65_code
def yJ9_max_7cf53 : MethodName := ⟨RJ9, "max", "(II)I"⟩
abbrev cJ9_min_7cf53 : ByteArray := prog_14_method_69_code
def yJ9_min_7cf53 : MethodName := ⟨RJ9, "min", "(II)I"⟩
def RJ10 : String := "java/lang/System"
def TJ10 : u_T := fun k => match k with
  | _ => ("", "", "", false)
def tyJ10 : Nat → FieldType := fun k => match k with
  | _ => .int
abbrev wsJ100 : List Cond := u_ws RJ10 TJ10 0
theorem nmJ10 : ∀ a, a < 0 → ∀ b, b < 0 → a ≠ b → (TJ10 a).2.1 ≠ (TJ10 b).2.1 := by decide +kernel
theorem tyJ10_ok : ∀ k, k < 0 → parseFieldDescriptor (TJ10 k).2.2.1 = some (tyJ10 k) := by decide +kernel
def RJ7 : String := "java/util/Arrays"
def TJ7 : u_T := fun k => match k with
  | _ => ("", "", "", false)
def tyJ7 : Nat → FieldType := fun k => match k with
  | _ => .int
abbrev wsJ70 : List Cond := u_ws RJ7 TJ7 0
theorem nmJ7 : ∀ a, a < 0 → ∀ b, b < 0 → a ≠ b → (TJ7 a).2.1 ≠ (TJ7 b).2.1 := by decide +kernel
theorem tyJ7_ok : ∀ k, k < 0 → parseFieldDescriptor (TJ7 k).2.2.1 = some (tyJ7 k) := by decide +kernel
abbrev cJ7_fill_53178 : ByteArray := prog_16_method_103_code
def yJ7_fill_53178 : MethodName := ⟨RJ7, "fill", "([II)V"⟩
def RL : String := "FallingWordsLaw"
abbrev cL_law : ByteArray := code
def yL_law : MethodName := ⟨RL, "law", "([I)Z"⟩
def wsX4_init : List Cond := .code yX4_init cX4_init 1 none :: ([.methodLink RX4 3 objectInit, .instanceMethod objectInit, .code objectInit ⟨#[0xb1]⟩ 1 none, .arrayClass .int, .fieldLink RX4 9 "FallingWords$Rules" "left" "[I", .fieldLink RX4 15 "FallingWords$Rules" "right" "[I", .fieldLink RX4 18 "FallingWords$Rules" "leftLength" "[I", .fieldLink RX4 21 "FallingWords$Rules" "rightLength" "[I", .fieldLink RX4 24 "FallingWords$Rules" "times" "[I"] ++ wsX40)
def wsX7_init : List Cond := .code yX7_init cX7_init 1 none :: ([.methodLink RX7 3 objectInit, .instanceMethod objectInit, .code objectInit ⟨#[0xb1]⟩ 1 none, .arrayClass .int, .fieldLink RX7 9 "FallingWords$Store" "words" "[I", .fieldLink RX7 15 "FallingWords$Store" "normals" "[I"] ++ wsX70)
def wsX6_init_r1 : List Cond := [Cond.methodLink RX6 3 objectInit, Cond.instanceMethod objectInit, Cond.code objectInit ⟨#[0xb1]⟩ 1 none, Cond.classLink RX6 9 RX4, Cond.instantiable RX4 6, Cond.initialized RX4, Cond.fieldLink RX6 12 "FallingWords$State" "rules" "LFallingWords$Rules;", Cond.classLink RX6 18 RX7, Cond.instantiable RX7 3, Cond.initialized RX7, Cond.fieldLink RX6 21 "FallingWords$State" "store" "LFallingWords$Store;", Cond.fieldLink RX6 27 "FallingWords$State" "word" "I", Cond.fieldLink RX6 31 "FallingWords$State" "choosing" "I", Cond.instanceMethod yX4_init, Cond.code yX4_init cX4_init 1 none, Cond.methodLink RX4 3 objectInit, Cond.arrayClass .int, Cond.fieldLink RX4 9 "FallingWords$Rules" "left" "[I", Cond.fieldLink RX4 15 "FallingWords$Rules" "right" "[I", Cond.fieldLink RX4 18 "FallingWords$Rules" "leftLength" "[I", Cond.fieldLink RX4 21 "FallingWords$Rules" "rightLength" "[I", Cond.fieldLink RX4 24 "FallingWords$Rules" "times" "[I", Cond.instanceMethod yX7_init, Cond.code yX7_init cX7_init 1 none]
def wsX6_init_r2 : List Cond := [Cond.methodLink RX7 3 objectInit, Cond.fieldLink RX7 9 "FallingWords$Store" "words" "[I", Cond.fieldLink RX7 15 "FallingWords$Store" "normals" "[I"]
def wsX6_init : List Cond := .code yX6_init cX6_init 1 none :: ((wsX6_init_r1 ++ wsX6_init_r2) ++ wsX40 ++ wsX60 ++ wsX70)
def wsX0_init_r1 : List Cond := [Cond.methodLink RX0 3 objectInit, Cond.instanceMethod objectInit, Cond.code objectInit ⟨#[0xb1]⟩ 1 none, Cond.classLink RX0 9 RX6, Cond.fieldLink RX0 11 "FallingWords$History" "states" "[LFallingWords$State;", Cond.instantiable RX6 6, Cond.initialized RX6, Cond.instanceMethod yX6_init, Cond.code yX6_init cX6_init 1 none, Cond.methodLink RX6 3 objectInit, Cond.classLink RX6 9 RX4, Cond.instantiable RX4 6, Cond.initialized RX4, Cond.fieldLink RX6 12 "FallingWords$State" "rules" "LFallingWords$Rules;", Cond.classLink RX6 18 RX7, Cond.instantiable RX7 3, Cond.initialized RX7, Cond.fieldLink RX6 21 "FallingWords$State" "store" "LFallingWords$Store;", Cond.fieldLink RX6 27 "FallingWords$State" "word" "I", Cond.fieldLink RX6 31 "FallingWords$State" "choosing" "I", Cond.instanceMethod yX4_init, Cond.code yX4_init cX4_init 1 none, Cond.methodLink RX4 3 objectInit, Cond.arrayClass .int]
def wsX0_init_r2 : List Cond := [Cond.fieldLink RX4 9 "FallingWords$Rules" "left" "[I", Cond.fieldLink RX4 15 "FallingWords$Rules" "right" "[I", Cond.fieldLink RX4 18 "FallingWords$Rules" "leftLength" "[I", Cond.fieldLink RX4 21 "FallingWords$Rules" "rightLength" "[I", Cond.fieldLink RX4 24 "FallingWords$Rules" "times" "[I", Cond.instanceMethod yX7_init, Cond.code yX7_init cX7_init 1 none, Cond.methodLink RX7 3 objectInit, Cond.fieldLink RX7 9 "FallingWords$Store" "words" "[I", Cond.fieldLink RX7 15 "FallingWords$Store" "normals" "[I"]
def wsX0_init : List Cond := .code yX0_init cX0_init 2 none :: ((wsX0_init_r1 ++ wsX0_init_r2) ++ wsX00 ++ wsX60 ++ wsX40 ++ wsX70)
def wsX0_forgetOldest : List Cond := .code yX0_forgetOldest cX0_forgetOldest 3 none :: ([.fieldLink RX0 11 "FallingWords$History" "states" "[LFallingWords$State;", .fieldLink RX0 18 "FallingWords$History" "size" "I"] ++ wsX00)
def wsX4_takeOver : List Cond := .code yX4_takeOver cX4_takeOver 2 none :: ([.fieldLink RX4 9 "FallingWords$Rules" "left" "[I", .methodLink RX4 27 arraycopyName, .native arraycopyName, .static arraycopyName, .initialized "java/lang/System", .fieldLink RX4 15 "FallingWords$Rules" "right" "[I", .fieldLink RX4 18 "FallingWords$Rules" "leftLength" "[I", .fieldLink RX4 21 "FallingWords$Rules" "rightLength" "[I", .fieldLink RX4 24 "FallingWords$Rules" "times" "[I", .fieldLink RX4 33 "FallingWords$Rules" "size" "I"] ++ wsX40)
def wsX7_takeOver : List Cond := .code yX7_takeOver cX7_takeOver 2 none :: ([.fieldLink RX7 9 "FallingWords$Store" "words" "[I", .methodLink RX7 18 arraycopyName, .native arraycopyName, .static arraycopyName, .initialized "java/lang/System", .fieldLink RX7 15 "FallingWords$Store" "normals" "[I", .fieldLink RX7 24 "FallingWords$Store" "size" "I"] ++ wsX70)
def wsX6_takeOver_r1 : List Cond := [Cond.fieldLink RX6 12 "FallingWords$State" "rules" "LFallingWords$Rules;", Cond.fieldLink RX6 21 "FallingWords$State" "store" "LFallingWords$Store;", Cond.fieldLink RX6 27 "FallingWords$State" "word" "I", Cond.fieldLink RX6 31 "FallingWords$State" "choosing" "I", Cond.fieldLink RX6 41 "FallingWords$State" "taken" "I", Cond.fieldLink RX6 44 "FallingWords$State" "steps" "I", Cond.instanceMethod yX4_takeOver, Cond.initialized RX4, Cond.selects RX4 yX4_takeOver yX4_takeOver, Cond.code yX4_takeOver cX4_takeOver 2 none, Cond.fieldLink RX4 9 "FallingWords$Rules" "left" "[I", Cond.methodLink RX4 27 arraycopyName, Cond.native arraycopyName, Cond.static arraycopyName, Cond.initialized "java/lang/System", Cond.fieldLink RX4 15 "FallingWords$Rules" "right" "[I", Cond.fieldLink RX4 18 "FallingWords$Rules" "leftLength" "[I", Cond.fieldLink RX4 21 "FallingWords$Rules" "rightLength" "[I", Cond.fieldLink RX4 24 "FallingWords$Rules" "times" "[I", Cond.fieldLink RX4 33 "FallingWords$Rules" "size" "I", Cond.instanceMethod yX7_takeOver, Cond.initialized RX7, Cond.selects RX7 yX7_takeOver yX7_takeOver, Cond.code yX7_takeOver cX7_takeOver 2 none]
def wsX6_takeOver_r2 : List Cond := [Cond.fieldLink RX7 9 "FallingWords$Store" "words" "[I", Cond.methodLink RX7 18 arraycopyName, Cond.fieldLink RX7 15 "FallingWords$Store" "normals" "[I", Cond.fieldLink RX7 24 "FallingWords$Store" "size" "I"]
def wsX6_takeOver : List Cond := .code yX6_takeOver cX6_takeOver 2 none :: ((wsX6_takeOver_r1 ++ wsX6_takeOver_r2) ++ wsX60 ++ wsX40 ++ wsX70)
def wsX0_keep_r1 : List Cond := [Cond.fieldLink RX0 18 "FallingWords$History" "size" "I", Cond.fieldLink RX0 11 "FallingWords$History" "states" "[LFallingWords$State;", Cond.methodLink RX0 22 yX0_forgetOldest, Cond.instanceMethod yX0_forgetOldest, Cond.selects RX0 yX0_forgetOldest yX0_forgetOldest, Cond.initialized RX0, Cond.code yX0_forgetOldest cX0_forgetOldest 3 none, Cond.instanceMethod yX6_takeOver, Cond.initialized RX6, Cond.selects RX6 yX6_takeOver yX6_takeOver, Cond.code yX6_takeOver cX6_takeOver 2 none, Cond.fieldLink RX6 12 "FallingWords$State" "rules" "LFallingWords$Rules;", Cond.fieldLink RX6 21 "FallingWords$State" "store" "LFallingWords$Store;", Cond.fieldLink RX6 27 "FallingWords$State" "word" "I", Cond.fieldLink RX6 31 "FallingWords$State" "choosing" "I", Cond.fieldLink RX6 41 "FallingWords$State" "taken" "I", Cond.fieldLink RX6 44 "FallingWords$State" "steps" "I", Cond.instanceMethod yX4_takeOver, Cond.initialized RX4, Cond.selects RX4 yX4_takeOver yX4_takeOver, Cond.code yX4_takeOver cX4_takeOver 2 none, Cond.fieldLink RX4 9 "FallingWords$Rules" "left" "[I", Cond.methodLink RX4 27 arraycopyName, Cond.native arraycopyName]
def wsX0_keep_r2 : List Cond := [Cond.static arraycopyName, Cond.initialized "java/lang/System", Cond.fieldLink RX4 15 "FallingWords$Rules" "right" "[I", Cond.fieldLink RX4 18 "FallingWords$Rules" "leftLength" "[I", Cond.fieldLink RX4 21 "FallingWords$Rules" "rightLength" "[I", Cond.fieldLink RX4 24 "FallingWords$Rules" "times" "[I", Cond.fieldLink RX4 33 "FallingWords$Rules" "size" "I", Cond.instanceMethod yX7_takeOver, Cond.initialized RX7, Cond.selects RX7 yX7_takeOver yX7_takeOver, Cond.code yX7_takeOver cX7_takeOver 2 none, Cond.fieldLink RX7 9 "FallingWords$Store" "words" "[I", Cond.methodLink RX7 18 arraycopyName, Cond.fieldLink RX7 15 "FallingWords$Store" "normals" "[I", Cond.fieldLink RX7 24 "FallingWords$Store" "size" "I"]
def wsX0_keep : List Cond := .code yX0_keep cX0_keep 2 none :: ((wsX0_keep_r1 ++ wsX0_keep_r2) ++ wsX00 ++ wsX60 ++ wsX40 ++ wsX70)
def wsX0_restoreTo_r1 : List Cond := [Cond.fieldLink RX0 18 "FallingWords$History" "size" "I", Cond.fieldLink RX0 11 "FallingWords$History" "states" "[LFallingWords$State;", Cond.instanceMethod yX6_takeOver, Cond.initialized RX6, Cond.selects RX6 yX6_takeOver yX6_takeOver, Cond.code yX6_takeOver cX6_takeOver 2 none, Cond.fieldLink RX6 12 "FallingWords$State" "rules" "LFallingWords$Rules;", Cond.fieldLink RX6 21 "FallingWords$State" "store" "LFallingWords$Store;", Cond.fieldLink RX6 27 "FallingWords$State" "word" "I", Cond.fieldLink RX6 31 "FallingWords$State" "choosing" "I", Cond.fieldLink RX6 41 "FallingWords$State" "taken" "I", Cond.fieldLink RX6 44 "FallingWords$State" "steps" "I", Cond.instanceMethod yX4_takeOver, Cond.initialized RX4, Cond.selects RX4 yX4_takeOver yX4_takeOver, Cond.code yX4_takeOver cX4_takeOver 2 none, Cond.fieldLink RX4 9 "FallingWords$Rules" "left" "[I", Cond.methodLink RX4 27 arraycopyName, Cond.native arraycopyName, Cond.static arraycopyName, Cond.initialized "java/lang/System", Cond.fieldLink RX4 15 "FallingWords$Rules" "right" "[I", Cond.fieldLink RX4 18 "FallingWords$Rules" "leftLength" "[I", Cond.fieldLink RX4 21 "FallingWords$Rules" "rightLength" "[I"]
def wsX0_restoreTo_r2 : List Cond := [Cond.fieldLink RX4 24 "FallingWords$Rules" "times" "[I", Cond.fieldLink RX4 33 "FallingWords$Rules" "size" "I", Cond.instanceMethod yX7_takeOver, Cond.initialized RX7, Cond.selects RX7 yX7_takeOver yX7_takeOver, Cond.code yX7_takeOver cX7_takeOver 2 none, Cond.fieldLink RX7 9 "FallingWords$Store" "words" "[I", Cond.methodLink RX7 18 arraycopyName, Cond.fieldLink RX7 15 "FallingWords$Store" "normals" "[I", Cond.fieldLink RX7 24 "FallingWords$Store" "size" "I"]
def wsX0_restoreTo : List Cond := .code yX0_restoreTo cX0_restoreTo 2 none :: ((wsX0_restoreTo_r1 ++ wsX0_restoreTo_r2) ++ wsX00 ++ wsX60 ++ wsX40 ++ wsX70)
def wsX1_init : List Cond := .code yX1_init cX1_init 1 none :: ([.methodLink RX1 3 objectInit, .instanceMethod objectInit, .code objectInit ⟨#[0xb1]⟩ 1 none])
def wsX4_contains : List Cond := .code yX4_contains cX4_contains 2 (some .boolean) :: ([.fieldLink RX4 33 "FallingWords$Rules" "size" "I"] ++ wsX40)
def wsX9_lastBits : List Cond := .code yX9_lastBits cX9_lastBits 2 (some .int) :: ([])
def wsX1_coveredWord : List Cond := .code yX1_coveredWord cX1_coveredWord 4 (some .int) :: ([.fieldLink RX1 25 "FallingWords$Overlaps" "first" "I", .fieldLink RX1 29 "FallingWords$Overlaps" "second" "I", .static yX9_lastBits, .initialized RX9, .code yX9_lastBits cX9_lastBits 2 (some .int)] ++ wsX40 ++ wsX10)
def wsX9_lengthOf : List Cond := .code yX9_lengthOf cX9_lengthOf 3 (some .int) :: ([])
def wsX4_appliesAt : List Cond := .code yX4_appliesAt cX4_appliesAt 8 (some .boolean) :: ([.fieldLink RX4 18 "FallingWords$Rules" "leftLength" "[I", .fieldLink RX4 9 "FallingWords$Rules" "left" "[I"] ++ wsX40)
def wsX1_isOverlap : List Cond := .code yX1_isOverlap cX1_isOverlap 7 (some .boolean) :: ([.fieldLink RX1 25 "FallingWords$Overlaps" "first" "I", .fieldLink RX1 29 "FallingWords$Overlaps" "second" "I", .fieldLink RX1 32 "FallingWords$Overlaps" "place" "I", .fieldLink RX1 49 "FallingWords$Overlaps" "word" "I", .instanceMethod yX4_contains, .initialized RX4, .selects RX4 yX4_contains yX4_contains, .code yX4_contains cX4_contains 2 (some .boolean), .fieldLink RX4 33 "FallingWords$Rules" "size" "I", .methodLink RX1 45 yX1_coveredWord, .instanceMethod yX1_coveredWord, .selects RX1 yX1_coveredWord yX1_coveredWord, .initialized RX1, .code yX1_coveredWord cX1_coveredWord 4 (some .int), .static yX9_lastBits, .initialized RX9, .code yX9_lastBits cX9_lastBits 2 (some .int), .static yX9_lengthOf, .code yX9_lengthOf cX9_lengthOf 3 (some .int), .instanceMethod yX4_appliesAt, .selects RX4 yX4_appliesAt yX4_appliesAt, .code yX4_appliesAt cX4_appliesAt 8 (some .boolean), .fieldLink RX4 18 "FallingWords$Rules" "leftLength" "[I", .fieldLink RX4 9 "FallingWords$Rules" "left" "[I"] ++ wsX10 ++ wsX40)
def wsX1_find_r1 : List Cond := [Cond.methodLink RX1 11 yX1_isOverlap, Cond.instanceMethod yX1_isOverlap, Cond.selects RX1 yX1_isOverlap yX1_isOverlap, Cond.initialized RX1, Cond.code yX1_isOverlap cX1_isOverlap 7 (some .boolean), Cond.fieldLink RX1 25 "FallingWords$Overlaps" "first" "I", Cond.fieldLink RX1 29 "FallingWords$Overlaps" "second" "I", Cond.fieldLink RX1 32 "FallingWords$Overlaps" "place" "I", Cond.fieldLink RX1 49 "FallingWords$Overlaps" "word" "I", Cond.instanceMethod yX4_contains, Cond.initialized RX4, Cond.selects RX4 yX4_contains yX4_contains, Cond.code yX4_contains cX4_contains 2 (some .boolean), Cond.fieldLink RX4 33 "FallingWords$Rules" "size" "I", Cond.methodLink RX1 45 yX1_coveredWord, Cond.instanceMethod yX1_coveredWord, Cond.selects RX1 yX1_coveredWord yX1_coveredWord, Cond.code yX1_coveredWord cX1_coveredWord 4 (some .int), Cond.static yX9_lastBits, Cond.initialized RX9, Cond.code yX9_lastBits cX9_lastBits 2 (some .int), Cond.static yX9_lengthOf, Cond.code yX9_lengthOf cX9_lengthOf 3 (some .int), Cond.instanceMethod yX4_appliesAt]
def wsX1_find_r2 : List Cond := [Cond.selects RX4 yX4_appliesAt yX4_appliesAt, Cond.code yX4_appliesAt cX4_appliesAt 8 (some .boolean), Cond.fieldLink RX4 18 "FallingWords$Rules" "leftLength" "[I", Cond.fieldLink RX4 9 "FallingWords$Rules" "left" "[I"]
def wsX1_find : List Cond := .code yX1_find cX1_find 5 (some .boolean) :: ((wsX1_find_r1 ++ wsX1_find_r2) ++ wsX10 ++ wsX40)
def wsX4_applied : List Cond := .code yX4_applied cX4_applied 9 (some .int) :: ([.fieldLink RX4 15 "FallingWords$Rules" "right" "[I", .fieldLink RX4 21 "FallingWords$Rules" "rightLength" "[I", .fieldLink RX4 18 "FallingWords$Rules" "leftLength" "[I", .static yX9_lengthOf, .initialized RX9, .code yX9_lengthOf cX9_lengthOf 3 (some .int), .static yX9_lastBits, .code yX9_lastBits cX9_lastBits 2 (some .int)] ++ wsX40)
def wsX1_firstWord : List Cond := .code yX1_firstWord cX1_firstWord 2 (some .int) :: ([.fieldLink RX1 49 "FallingWords$Overlaps" "word" "I", .fieldLink RX1 25 "FallingWords$Overlaps" "first" "I", .instanceMethod yX4_applied, .initialized RX4, .selects RX4 yX4_applied yX4_applied, .code yX4_applied cX4_applied 9 (some .int), .fieldLink RX4 15 "FallingWords$Rules" "right" "[I", .fieldLink RX4 21 "FallingWords$Rules" "rightLength" "[I", .fieldLink RX4 18 "FallingWords$Rules" "leftLength" "[I", .static yX9_lengthOf, .initialized RX9, .code yX9_lengthOf cX9_lengthOf 3 (some .int), .static yX9_lastBits, .code yX9_lastBits cX9_lastBits 2 (some .int)] ++ wsX10 ++ wsX40)
def wsX3_firstTimeOf : List Cond := .code yX3_firstTimeOf cX3_firstTimeOf 3 (some .int) :: ([.fieldLink RX3 18 "FallingWords$Reduction" "steps" "I", .fieldLink RX3 9 "FallingWords$Reduction" "words" "[I"] ++ wsX30)
def wsX4_choiceFor : List Cond := .code yX4_choiceFor cX4_choiceFor 12 (some .int) :: ([.fieldLink RX4 33 "FallingWords$Rules" "size" "I", .static yX9_lengthOf, .initialized RX9, .code yX9_lengthOf cX9_lengthOf 3 (some .int), .methodLink RX4 51 yX4_appliesAt, .instanceMethod yX4_appliesAt, .selects RX4 yX4_appliesAt yX4_appliesAt, .initialized RX4, .code yX4_appliesAt cX4_appliesAt 8 (some .boolean), .fieldLink RX4 18 "FallingWords$Rules" "leftLength" "[I", .fieldLink RX4 9 "FallingWords$Rules" "left" "[I"] ++ wsX40)
def wsX4_ruleIn : List Cond := .code yX4_ruleIn cX4_ruleIn 1 (some .int) :: ([])
def wsX4_placeIn : List Cond := .code yX4_placeIn cX4_placeIn 1 (some .int) :: ([])
def wsX3_run_r1 : List Cond := [Cond.fieldLink RX3 9 "FallingWords$Reduction" "words" "[I", Cond.fieldLink RX3 18 "FallingWords$Reduction" "steps" "I", Cond.fieldLink RX3 26 "FallingWords$Reduction" "ringStart" "I", Cond.fieldLink RX3 29 "FallingWords$Reduction" "outcome" "I", Cond.fieldLink RX3 15 "FallingWords$Reduction" "rulesUsed" "[I", Cond.methodLink RX3 22 yX3_firstTimeOf, Cond.instanceMethod yX3_firstTimeOf, Cond.selects RX3 yX3_firstTimeOf yX3_firstTimeOf, Cond.initialized RX3, Cond.code yX3_firstTimeOf cX3_firstTimeOf 3 (some .int), Cond.instanceMethod yX4_choiceFor, Cond.initialized RX4, Cond.selects RX4 yX4_choiceFor yX4_choiceFor, Cond.code yX4_choiceFor cX4_choiceFor 12 (some .int), Cond.fieldLink RX4 33 "FallingWords$Rules" "size" "I", Cond.static yX9_lengthOf, Cond.initialized RX9, Cond.code yX9_lengthOf cX9_lengthOf 3 (some .int), Cond.methodLink RX4 51 yX4_appliesAt, Cond.instanceMethod yX4_appliesAt, Cond.selects RX4 yX4_appliesAt yX4_appliesAt, Cond.code yX4_appliesAt cX4_appliesAt 8 (some .boolean), Cond.fieldLink RX4 18 "FallingWords$Rules" "leftLength" "[I", Cond.fieldLink RX4 9 "FallingWords$Rules" "left" "[I"]
def wsX3_run_r2 : List Cond := [Cond.static yX4_ruleIn, Cond.code yX4_ruleIn cX4_ruleIn 1 (some .int), Cond.static yX4_placeIn, Cond.code yX4_placeIn cX4_placeIn 1 (some .int), Cond.instanceMethod yX4_applied, Cond.selects RX4 yX4_applied yX4_applied, Cond.code yX4_applied cX4_applied 9 (some .int), Cond.fieldLink RX4 15 "FallingWords$Rules" "right" "[I", Cond.fieldLink RX4 21 "FallingWords$Rules" "rightLength" "[I", Cond.static yX9_lastBits, Cond.code yX9_lastBits cX9_lastBits 2 (some .int)]
def wsX3_run : List Cond := .code yX3_run cX3_run 5 none :: ((wsX3_run_r1 ++ wsX3_run_r2) ++ wsX30 ++ wsX40)
def wsX3_last : List Cond := .code yX3_last cX3_last 1 (some .int) :: ([.fieldLink RX3 9 "FallingWords$Reduction" "words" "[I", .fieldLink RX3 18 "FallingWords$Reduction" "steps" "I"] ++ wsX30)
def wsX1_secondWord : List Cond := .code yX1_secondWord cX1_secondWord 2 (some .int) :: ([.fieldLink RX1 49 "FallingWords$Overlaps" "word" "I", .fieldLink RX1 29 "FallingWords$Overlaps" "second" "I", .fieldLink RX1 32 "FallingWords$Overlaps" "place" "I", .instanceMethod yX4_applied, .initialized RX4, .selects RX4 yX4_applied yX4_applied, .code yX4_applied cX4_applied 9 (some .int), .fieldLink RX4 15 "FallingWords$Rules" "right" "[I", .fieldLink RX4 21 "FallingWords$Rules" "rightLength" "[I", .fieldLink RX4 18 "FallingWords$Rules" "leftLength" "[I", .static yX9_lengthOf, .initialized RX9, .code yX9_lengthOf cX9_lengthOf 3 (some .int), .static yX9_lastBits, .code yX9_lastBits cX9_lastBits 2 (some .int)] ++ wsX10 ++ wsX40)
def wsX1_verdict_r1 : List Cond := [Cond.fieldLink RX1 93 "FallingWords$Overlaps" "firstNormal" "I", Cond.fieldLink RX1 99 "FallingWords$Overlaps" "secondNormal" "I", Cond.methodLink RX1 76 yX1_firstWord, Cond.instanceMethod yX1_firstWord, Cond.selects RX1 yX1_firstWord yX1_firstWord, Cond.initialized RX1, Cond.code yX1_firstWord cX1_firstWord 2 (some .int), Cond.fieldLink RX1 49 "FallingWords$Overlaps" "word" "I", Cond.fieldLink RX1 25 "FallingWords$Overlaps" "first" "I", Cond.instanceMethod yX4_applied, Cond.initialized RX4, Cond.selects RX4 yX4_applied yX4_applied, Cond.code yX4_applied cX4_applied 9 (some .int), Cond.fieldLink RX4 15 "FallingWords$Rules" "right" "[I", Cond.fieldLink RX4 21 "FallingWords$Rules" "rightLength" "[I", Cond.fieldLink RX4 18 "FallingWords$Rules" "leftLength" "[I", Cond.static yX9_lengthOf, Cond.initialized RX9, Cond.code yX9_lengthOf cX9_lengthOf 3 (some .int), Cond.static yX9_lastBits, Cond.code yX9_lastBits cX9_lastBits 2 (some .int), Cond.instanceMethod yX3_run, Cond.initialized RX3, Cond.selects RX3 yX3_run yX3_run]
def wsX1_verdict_r2 : List Cond := [Cond.code yX3_run cX3_run 5 none, Cond.fieldLink RX3 9 "FallingWords$Reduction" "words" "[I", Cond.fieldLink RX3 18 "FallingWords$Reduction" "steps" "I", Cond.fieldLink RX3 26 "FallingWords$Reduction" "ringStart" "I", Cond.fieldLink RX3 29 "FallingWords$Reduction" "outcome" "I", Cond.fieldLink RX3 15 "FallingWords$Reduction" "rulesUsed" "[I", Cond.methodLink RX3 22 yX3_firstTimeOf, Cond.instanceMethod yX3_firstTimeOf, Cond.selects RX3 yX3_firstTimeOf yX3_firstTimeOf, Cond.code yX3_firstTimeOf cX3_firstTimeOf 3 (some .int), Cond.instanceMethod yX4_choiceFor, Cond.selects RX4 yX4_choiceFor yX4_choiceFor, Cond.code yX4_choiceFor cX4_choiceFor 12 (some .int), Cond.fieldLink RX4 33 "FallingWords$Rules" "size" "I", Cond.methodLink RX4 51 yX4_appliesAt, Cond.instanceMethod yX4_appliesAt, Cond.selects RX4 yX4_appliesAt yX4_appliesAt, Cond.code yX4_appliesAt cX4_appliesAt 8 (some .boolean), Cond.fieldLink RX4 9 "FallingWords$Rules" "left" "[I", Cond.static yX4_ruleIn, Cond.code yX4_ruleIn cX4_ruleIn 1 (some .int), Cond.static yX4_placeIn, Cond.code yX4_placeIn cX4_placeIn 1 (some .int), Cond.instanceMethod yX3_last]
def wsX1_verdict_r3 : List Cond := [Cond.selects RX3 yX3_last yX3_last, Cond.code yX3_last cX3_last 1 (some .int), Cond.methodLink RX1 96 yX1_secondWord, Cond.instanceMethod yX1_secondWord, Cond.selects RX1 yX1_secondWord yX1_secondWord, Cond.code yX1_secondWord cX1_secondWord 2 (some .int), Cond.fieldLink RX1 29 "FallingWords$Overlaps" "second" "I", Cond.fieldLink RX1 32 "FallingWords$Overlaps" "place" "I"]
def wsX1_verdict : List Cond := .code yX1_verdict cX1_verdict 3 (some .int) :: ((wsX1_verdict_r1 ++ (wsX1_verdict_r2 ++ wsX1_verdict_r3)) ++ wsX60 ++ wsX30 ++ wsX10 ++ wsX40)
def wsX1_findParting_r1 : List Cond := [Cond.methodLink RX1 11 yX1_isOverlap, Cond.instanceMethod yX1_isOverlap, Cond.selects RX1 yX1_isOverlap yX1_isOverlap, Cond.initialized RX1, Cond.code yX1_isOverlap cX1_isOverlap 7 (some .boolean), Cond.fieldLink RX1 25 "FallingWords$Overlaps" "first" "I", Cond.fieldLink RX1 29 "FallingWords$Overlaps" "second" "I", Cond.fieldLink RX1 32 "FallingWords$Overlaps" "place" "I", Cond.fieldLink RX1 49 "FallingWords$Overlaps" "word" "I", Cond.instanceMethod yX4_contains, Cond.initialized RX4, Cond.selects RX4 yX4_contains yX4_contains, Cond.code yX4_contains cX4_contains 2 (some .boolean), Cond.fieldLink RX4 33 "FallingWords$Rules" "size" "I", Cond.methodLink RX1 45 yX1_coveredWord, Cond.instanceMethod yX1_coveredWord, Cond.selects RX1 yX1_coveredWord yX1_coveredWord, Cond.code yX1_coveredWord cX1_coveredWord 4 (some .int), Cond.static yX9_lastBits, Cond.initialized RX9, Cond.code yX9_lastBits cX9_lastBits 2 (some .int), Cond.static yX9_lengthOf, Cond.code yX9_lengthOf cX9_lengthOf 3 (some .int), Cond.instanceMethod yX4_appliesAt]
def wsX1_findParting_r2 : List Cond := [Cond.selects RX4 yX4_appliesAt yX4_appliesAt, Cond.code yX4_appliesAt cX4_appliesAt 8 (some .boolean), Cond.fieldLink RX4 18 "FallingWords$Rules" "leftLength" "[I", Cond.fieldLink RX4 9 "FallingWords$Rules" "left" "[I", Cond.methodLink RX1 21 yX1_verdict, Cond.instanceMethod yX1_verdict, Cond.selects RX1 yX1_verdict yX1_verdict, Cond.code yX1_verdict cX1_verdict 3 (some .int), Cond.fieldLink RX1 93 "FallingWords$Overlaps" "firstNormal" "I", Cond.fieldLink RX1 99 "FallingWords$Overlaps" "secondNormal" "I", Cond.methodLink RX1 76 yX1_firstWord, Cond.instanceMethod yX1_firstWord, Cond.selects RX1 yX1_firstWord yX1_firstWord, Cond.code yX1_firstWord cX1_firstWord 2 (some .int), Cond.instanceMethod yX4_applied, Cond.selects RX4 yX4_applied yX4_applied, Cond.code yX4_applied cX4_applied 9 (some .int), Cond.fieldLink RX4 15 "FallingWords$Rules" "right" "[I", Cond.fieldLink RX4 21 "FallingWords$Rules" "rightLength" "[I", Cond.instanceMethod yX3_run, Cond.initialized RX3, Cond.selects RX3 yX3_run yX3_run, Cond.code yX3_run cX3_run 5 none, Cond.fieldLink RX3 9 "FallingWords$Reduction" "words" "[I"]
def wsX1_findParting_r3 : List Cond := [Cond.fieldLink RX3 18 "FallingWords$Reduction" "steps" "I", Cond.fieldLink RX3 26 "FallingWords$Reduction" "ringStart" "I", Cond.fieldLink RX3 29 "FallingWords$Reduction" "outcome" "I", Cond.fieldLink RX3 15 "FallingWords$Reduction" "rulesUsed" "[I", Cond.methodLink RX3 22 yX3_firstTimeOf, Cond.instanceMethod yX3_firstTimeOf, Cond.selects RX3 yX3_firstTimeOf yX3_firstTimeOf, Cond.code yX3_firstTimeOf cX3_firstTimeOf 3 (some .int), Cond.instanceMethod yX4_choiceFor, Cond.selects RX4 yX4_choiceFor yX4_choiceFor, Cond.code yX4_choiceFor cX4_choiceFor 12 (some .int), Cond.methodLink RX4 51 yX4_appliesAt, Cond.static yX4_ruleIn, Cond.code yX4_ruleIn cX4_ruleIn 1 (some .int), Cond.static yX4_placeIn, Cond.code yX4_placeIn cX4_placeIn 1 (some .int), Cond.instanceMethod yX3_last, Cond.selects RX3 yX3_last yX3_last, Cond.code yX3_last cX3_last 1 (some .int), Cond.methodLink RX1 96 yX1_secondWord, Cond.instanceMethod yX1_secondWord, Cond.selects RX1 yX1_secondWord yX1_secondWord, Cond.code yX1_secondWord cX1_secondWord 2 (some .int)]
def wsX1_findParting : List Cond := .code yX1_findParting cX1_findParting 4 (some .boolean) :: ((wsX1_findParting_r1 ++ (wsX1_findParting_r2 ++ wsX1_findParting_r3)) ++ wsX60 ++ wsX10 ++ wsX40 ++ wsX30)
def wsX1_howMany_r1 : List Cond := [Cond.methodLink RX1 11 yX1_isOverlap, Cond.instanceMethod yX1_isOverlap, Cond.selects RX1 yX1_isOverlap yX1_isOverlap, Cond.initialized RX1, Cond.code yX1_isOverlap cX1_isOverlap 7 (some .boolean), Cond.fieldLink RX1 25 "FallingWords$Overlaps" "first" "I", Cond.fieldLink RX1 29 "FallingWords$Overlaps" "second" "I", Cond.fieldLink RX1 32 "FallingWords$Overlaps" "place" "I", Cond.fieldLink RX1 49 "FallingWords$Overlaps" "word" "I", Cond.instanceMethod yX4_contains, Cond.initialized RX4, Cond.selects RX4 yX4_contains yX4_contains, Cond.code yX4_contains cX4_contains 2 (some .boolean), Cond.fieldLink RX4 33 "FallingWords$Rules" "size" "I", Cond.methodLink RX1 45 yX1_coveredWord, Cond.instanceMethod yX1_coveredWord, Cond.selects RX1 yX1_coveredWord yX1_coveredWord, Cond.code yX1_coveredWord cX1_coveredWord 4 (some .int), Cond.static yX9_lastBits, Cond.initialized RX9, Cond.code yX9_lastBits cX9_lastBits 2 (some .int), Cond.static yX9_lengthOf, Cond.code yX9_lengthOf cX9_lengthOf 3 (some .int), Cond.instanceMethod yX4_appliesAt]
def wsX1_howMany_r2 : List Cond := [Cond.selects RX4 yX4_appliesAt yX4_appliesAt, Cond.code yX4_appliesAt cX4_appliesAt 8 (some .boolean), Cond.fieldLink RX4 18 "FallingWords$Rules" "leftLength" "[I", Cond.fieldLink RX4 9 "FallingWords$Rules" "left" "[I"]
def wsX1_howMany : List Cond := .code yX1_howMany cX1_howMany 4 (some .int) :: ((wsX1_howMany_r1 ++ wsX1_howMany_r2) ++ wsX10 ++ wsX40)
def wsX1_howManyAre_r1 : List Cond := [Cond.methodLink RX1 11 yX1_isOverlap, Cond.instanceMethod yX1_isOverlap, Cond.selects RX1 yX1_isOverlap yX1_isOverlap, Cond.initialized RX1, Cond.code yX1_isOverlap cX1_isOverlap 7 (some .boolean), Cond.fieldLink RX1 25 "FallingWords$Overlaps" "first" "I", Cond.fieldLink RX1 29 "FallingWords$Overlaps" "second" "I", Cond.fieldLink RX1 32 "FallingWords$Overlaps" "place" "I", Cond.fieldLink RX1 49 "FallingWords$Overlaps" "word" "I", Cond.instanceMethod yX4_contains, Cond.initialized RX4, Cond.selects RX4 yX4_contains yX4_contains, Cond.code yX4_contains cX4_contains 2 (some .boolean), Cond.fieldLink RX4 33 "FallingWords$Rules" "size" "I", Cond.methodLink RX1 45 yX1_coveredWord, Cond.instanceMethod yX1_coveredWord, Cond.selects RX1 yX1_coveredWord yX1_coveredWord, Cond.code yX1_coveredWord cX1_coveredWord 4 (some .int), Cond.static yX9_lastBits, Cond.initialized RX9, Cond.code yX9_lastBits cX9_lastBits 2 (some .int), Cond.static yX9_lengthOf, Cond.code yX9_lengthOf cX9_lengthOf 3 (some .int), Cond.instanceMethod yX4_appliesAt]
def wsX1_howManyAre_r2 : List Cond := [Cond.selects RX4 yX4_appliesAt yX4_appliesAt, Cond.code yX4_appliesAt cX4_appliesAt 8 (some .boolean), Cond.fieldLink RX4 18 "FallingWords$Rules" "leftLength" "[I", Cond.fieldLink RX4 9 "FallingWords$Rules" "left" "[I", Cond.methodLink RX1 21 yX1_verdict, Cond.instanceMethod yX1_verdict, Cond.selects RX1 yX1_verdict yX1_verdict, Cond.code yX1_verdict cX1_verdict 3 (some .int), Cond.fieldLink RX1 93 "FallingWords$Overlaps" "firstNormal" "I", Cond.fieldLink RX1 99 "FallingWords$Overlaps" "secondNormal" "I", Cond.methodLink RX1 76 yX1_firstWord, Cond.instanceMethod yX1_firstWord, Cond.selects RX1 yX1_firstWord yX1_firstWord, Cond.code yX1_firstWord cX1_firstWord 2 (some .int), Cond.instanceMethod yX4_applied, Cond.selects RX4 yX4_applied yX4_applied, Cond.code yX4_applied cX4_applied 9 (some .int), Cond.fieldLink RX4 15 "FallingWords$Rules" "right" "[I", Cond.fieldLink RX4 21 "FallingWords$Rules" "rightLength" "[I", Cond.instanceMethod yX3_run, Cond.initialized RX3, Cond.selects RX3 yX3_run yX3_run, Cond.code yX3_run cX3_run 5 none, Cond.fieldLink RX3 9 "FallingWords$Reduction" "words" "[I"]
def wsX1_howManyAre_r3 : List Cond := [Cond.fieldLink RX3 18 "FallingWords$Reduction" "steps" "I", Cond.fieldLink RX3 26 "FallingWords$Reduction" "ringStart" "I", Cond.fieldLink RX3 29 "FallingWords$Reduction" "outcome" "I", Cond.fieldLink RX3 15 "FallingWords$Reduction" "rulesUsed" "[I", Cond.methodLink RX3 22 yX3_firstTimeOf, Cond.instanceMethod yX3_firstTimeOf, Cond.selects RX3 yX3_firstTimeOf yX3_firstTimeOf, Cond.code yX3_firstTimeOf cX3_firstTimeOf 3 (some .int), Cond.instanceMethod yX4_choiceFor, Cond.selects RX4 yX4_choiceFor yX4_choiceFor, Cond.code yX4_choiceFor cX4_choiceFor 12 (some .int), Cond.methodLink RX4 51 yX4_appliesAt, Cond.static yX4_ruleIn, Cond.code yX4_ruleIn cX4_ruleIn 1 (some .int), Cond.static yX4_placeIn, Cond.code yX4_placeIn cX4_placeIn 1 (some .int), Cond.instanceMethod yX3_last, Cond.selects RX3 yX3_last yX3_last, Cond.code yX3_last cX3_last 1 (some .int), Cond.methodLink RX1 96 yX1_secondWord, Cond.instanceMethod yX1_secondWord, Cond.selects RX1 yX1_secondWord yX1_secondWord, Cond.code yX1_secondWord cX1_secondWord 2 (some .int)]
def wsX1_howManyAre : List Cond := .code yX1_howManyAre cX1_howManyAre 6 (some .int) :: ((wsX1_howManyAre_r1 ++ (wsX1_howManyAre_r2 ++ wsX1_howManyAre_r3)) ++ wsX60 ++ wsX10 ++ wsX40 ++ wsX30)
def wsX2_init : List Cond := .code yX2_init cX2_init 1 none :: ([.methodLink RX2 3 objectInit, .instanceMethod objectInit, .code objectInit ⟨#[0xb1]⟩ 1 none, .arrayClass .int, .fieldLink RX2 9 "FallingWords$Reach" "words" "[I", .fieldLink RX2 15 "FallingWords$Reach" "seats" "[I"] ++ wsX20)
def wsJ7_fill_53178 : List Cond := .code yJ7_fill_53178 cJ7_fill_53178 4 none :: ([])
def wsX2_add : List Cond := .code yX2_add cX2_add 4 none :: ([.constant RX2 78 (-1640531535), .fieldLink RX2 15 "FallingWords$Reach" "seats" "[I", .fieldLink RX2 24 "FallingWords$Reach" "size" "I", .fieldLink RX2 28 "FallingWords$Reach" "tooMany" "Z", .fieldLink RX2 9 "FallingWords$Reach" "words" "[I"] ++ wsX20)
def wsX2_addEnd : List Cond := .code yX2_addEnd cX2_addEnd 2 none :: ([.fieldLink RX2 32 "FallingWords$Reach" "ends" "I", .fieldLink RX2 63 "FallingWords$Reach" "firstEnd" "I", .methodLink RX2 66 Lib.Math.min.name, .static Lib.Math.min.name, .initialized "java/lang/Math", .code Lib.Math.min.name Lib.Math.min.code 2 (some .int), .fieldLink RX2 72 "FallingWords$Reach" "lastEnd" "I", .methodLink RX2 75 Lib.Math.max.name, .static Lib.Math.max.name, .code Lib.Math.max.name Lib.Math.max.code 2 (some .int)] ++ wsX20)
def wsX2_addAllFrom_r1 : List Cond := [Cond.static yX9_lengthOf, Cond.initialized RX9, Cond.code yX9_lengthOf cX9_lengthOf 3 (some .int), Cond.instanceMethod yX4_appliesAt, Cond.initialized RX4, Cond.selects RX4 yX4_appliesAt yX4_appliesAt, Cond.code yX4_appliesAt cX4_appliesAt 8 (some .boolean), Cond.fieldLink RX4 18 "FallingWords$Rules" "leftLength" "[I", Cond.fieldLink RX4 9 "FallingWords$Rules" "left" "[I", Cond.instanceMethod yX4_applied, Cond.selects RX4 yX4_applied yX4_applied, Cond.code yX4_applied cX4_applied 9 (some .int), Cond.fieldLink RX4 15 "FallingWords$Rules" "right" "[I", Cond.fieldLink RX4 21 "FallingWords$Rules" "rightLength" "[I", Cond.static yX9_lastBits, Cond.code yX9_lastBits cX9_lastBits 2 (some .int), Cond.methodLink RX2 35 yX2_add, Cond.instanceMethod yX2_add, Cond.selects RX2 yX2_add yX2_add, Cond.initialized RX2, Cond.code yX2_add cX2_add 4 none, Cond.constant RX2 78 (-1640531535), Cond.fieldLink RX2 15 "FallingWords$Reach" "seats" "[I", Cond.fieldLink RX2 24 "FallingWords$Reach" "size" "I"]
def wsX2_addAllFrom_r2 : List Cond := [Cond.fieldLink RX2 28 "FallingWords$Reach" "tooMany" "Z", Cond.fieldLink RX2 9 "FallingWords$Reach" "words" "[I", Cond.methodLink RX2 60 yX2_addEnd, Cond.instanceMethod yX2_addEnd, Cond.selects RX2 yX2_addEnd yX2_addEnd, Cond.code yX2_addEnd cX2_addEnd 2 none, Cond.fieldLink RX2 32 "FallingWords$Reach" "ends" "I", Cond.fieldLink RX2 63 "FallingWords$Reach" "firstEnd" "I", Cond.methodLink RX2 66 Lib.Math.min.name, Cond.static Lib.Math.min.name, Cond.initialized "java/lang/Math", Cond.code Lib.Math.min.name Lib.Math.min.code 2 (some .int), Cond.fieldLink RX2 72 "FallingWords$Reach" "lastEnd" "I", Cond.methodLink RX2 75 Lib.Math.max.name, Cond.static Lib.Math.max.name, Cond.code Lib.Math.max.name Lib.Math.max.code 2 (some .int)]
def wsX2_addAllFrom : List Cond := .code yX2_addAllFrom cX2_addAllFrom 7 none :: ((wsX2_addAllFrom_r1 ++ wsX2_addAllFrom_r2) ++ wsX40 ++ wsX20)
def wsX2_run_r1 : List Cond := [Cond.fieldLink RX2 15 "FallingWords$Reach" "seats" "[I", Cond.fieldLink RX2 24 "FallingWords$Reach" "size" "I", Cond.fieldLink RX2 28 "FallingWords$Reach" "tooMany" "Z", Cond.fieldLink RX2 32 "FallingWords$Reach" "ends" "I", Cond.fieldLink RX2 9 "FallingWords$Reach" "words" "[I", Cond.methodLink RX2 18 yJ7_fill_53178, Cond.static yJ7_fill_53178, Cond.initialized RJ7, Cond.code yJ7_fill_53178 cJ7_fill_53178 4 none, Cond.methodLink RX2 35 yX2_add, Cond.instanceMethod yX2_add, Cond.selects RX2 yX2_add yX2_add, Cond.initialized RX2, Cond.code yX2_add cX2_add 4 none, Cond.constant RX2 78 (-1640531535), Cond.methodLink RX2 39 yX2_addAllFrom, Cond.instanceMethod yX2_addAllFrom, Cond.selects RX2 yX2_addAllFrom yX2_addAllFrom, Cond.code yX2_addAllFrom cX2_addAllFrom 7 none, Cond.static yX9_lengthOf, Cond.initialized RX9, Cond.code yX9_lengthOf cX9_lengthOf 3 (some .int), Cond.instanceMethod yX4_appliesAt, Cond.initialized RX4]
def wsX2_run_r2 : List Cond := [Cond.selects RX4 yX4_appliesAt yX4_appliesAt, Cond.code yX4_appliesAt cX4_appliesAt 8 (some .boolean), Cond.fieldLink RX4 18 "FallingWords$Rules" "leftLength" "[I", Cond.fieldLink RX4 9 "FallingWords$Rules" "left" "[I", Cond.instanceMethod yX4_applied, Cond.selects RX4 yX4_applied yX4_applied, Cond.code yX4_applied cX4_applied 9 (some .int), Cond.fieldLink RX4 15 "FallingWords$Rules" "right" "[I", Cond.fieldLink RX4 21 "FallingWords$Rules" "rightLength" "[I", Cond.static yX9_lastBits, Cond.code yX9_lastBits cX9_lastBits 2 (some .int), Cond.methodLink RX2 60 yX2_addEnd, Cond.instanceMethod yX2_addEnd, Cond.selects RX2 yX2_addEnd yX2_addEnd, Cond.code yX2_addEnd cX2_addEnd 2 none, Cond.fieldLink RX2 63 "FallingWords$Reach" "firstEnd" "I", Cond.methodLink RX2 66 Lib.Math.min.name, Cond.static Lib.Math.min.name, Cond.initialized "java/lang/Math", Cond.code Lib.Math.min.name Lib.Math.min.code 2 (some .int), Cond.fieldLink RX2 72 "FallingWords$Reach" "lastEnd" "I", Cond.methodLink RX2 75 Lib.Math.max.name, Cond.static Lib.Math.max.name, Cond.code Lib.Math.max.name Lib.Math.max.code 2 (some .int)]
def wsX2_run : List Cond := .code yX2_run cX2_run 4 none :: ((wsX2_run_r1 ++ wsX2_run_r2) ++ wsX20 ++ wsX40)
def wsX3_init : List Cond := .code yX3_init cX3_init 1 none :: ([.methodLink RX3 3 objectInit, .instanceMethod objectInit, .code objectInit ⟨#[0xb1]⟩ 1 none, .arrayClass .int, .fieldLink RX3 9 "FallingWords$Reduction" "words" "[I", .fieldLink RX3 15 "FallingWords$Reduction" "rulesUsed" "[I"] ++ wsX30)
def wsX3_countRules : List Cond := .code yX3_countRules cX3_countRules 3 none :: ([.fieldLink RX3 18 "FallingWords$Reduction" "steps" "I", .fieldLink RX3 15 "FallingWords$Reduction" "rulesUsed" "[I"] ++ wsX30 ++ wsX40)
def wsX4_isFull : List Cond := .code yX4_isFull cX4_isFull 1 (some .boolean) :: ([.fieldLink RX4 33 "FallingWords$Rules" "size" "I"] ++ wsX40)
def wsX4_hasSides : List Cond := .code yX4_hasSides cX4_hasSides 4 (some .boolean) :: ([.fieldLink RX4 33 "FallingWords$Rules" "size" "I", .fieldLink RX4 9 "FallingWords$Rules" "left" "[I", .fieldLink RX4 15 "FallingWords$Rules" "right" "[I"] ++ wsX40)
def wsX4_add : List Cond := .code yX4_add cX4_add 3 none :: ([.fieldLink RX4 9 "FallingWords$Rules" "left" "[I", .fieldLink RX4 33 "FallingWords$Rules" "size" "I", .fieldLink RX4 15 "FallingWords$Rules" "right" "[I", .fieldLink RX4 18 "FallingWords$Rules" "leftLength" "[I", .fieldLink RX4 21 "FallingWords$Rules" "rightLength" "[I", .fieldLink RX4 24 "FallingWords$Rules" "times" "[I", .methodLink RX4 37 yX4_isFull, .instanceMethod yX4_isFull, .selects RX4 yX4_isFull yX4_isFull, .initialized RX4, .code yX4_isFull cX4_isFull 1 (some .boolean), .static yX9_lengthOf, .initialized RX9, .code yX9_lengthOf cX9_lengthOf 3 (some .int)] ++ wsX40)
def wsX4_remove : List Cond := .code yX4_remove cX4_remove 3 none :: ([.fieldLink RX4 33 "FallingWords$Rules" "size" "I", .fieldLink RX4 9 "FallingWords$Rules" "left" "[I", .fieldLink RX4 15 "FallingWords$Rules" "right" "[I", .fieldLink RX4 18 "FallingWords$Rules" "leftLength" "[I", .fieldLink RX4 21 "FallingWords$Rules" "rightLength" "[I", .fieldLink RX4 24 "FallingWords$Rules" "times" "[I", .methodLink RX4 47 yX4_contains, .instanceMethod yX4_contains, .selects RX4 yX4_contains yX4_contains, .initialized RX4, .code yX4_contains cX4_contains 2 (some .boolean)] ++ wsX40)
def wsX4_placesIn : List Cond := .code yX4_placesIn cX4_placesIn 6 (some .int) :: ([.static yX9_lengthOf, .initialized RX9, .code yX9_lengthOf cX9_lengthOf 3 (some .int), .methodLink RX4 51 yX4_appliesAt, .instanceMethod yX4_appliesAt, .selects RX4 yX4_appliesAt yX4_appliesAt, .initialized RX4, .code yX4_appliesAt cX4_appliesAt 8 (some .boolean), .fieldLink RX4 18 "FallingWords$Rules" "leftLength" "[I", .fieldLink RX4 9 "FallingWords$Rules" "left" "[I"] ++ wsX40)
def wsX5_init : List Cond := .code yX5_init cX5_init 1 none :: ([.methodLink RX5 3 objectInit, .instanceMethod objectInit, .code objectInit ⟨#[0xb1]⟩ 1 none])
def wsX8_here : List Cond := .code yX8_here cX8_here 1 (some .int) :: ([.fieldLink RX8 23 "FallingWords$Text" "at" "I", .fieldLink RX8 15 "FallingWords$Text" "size" "I", .fieldLink RX8 9 "FallingWords$Text" "characters" "[C"] ++ wsX80)
def wsX9_withLetter : List Cond := .code yX9_withLetter cX9_withLetter 2 (some .int) :: ([])
def wsX8_readWord : List Cond := .code yX8_readWord cX8_readWord 3 (some .int) :: ([.fieldLink RX8 23 "FallingWords$Text" "at" "I", .fieldLink RX8 15 "FallingWords$Text" "size" "I", .methodLink RX8 26 yX8_here, .instanceMethod yX8_here, .selects RX8 yX8_here yX8_here, .initialized RX8, .code yX8_here cX8_here 1 (some .int), .fieldLink RX8 9 "FallingWords$Text" "characters" "[C", .static yX9_withLetter, .initialized RX9, .code yX9_withLetter cX9_withLetter 2 (some .int)] ++ wsX80)
def wsX8_passes : List Cond := .code yX8_passes cX8_passes 2 (some .boolean) :: ([.fieldLink RX8 23 "FallingWords$Text" "at" "I", .methodLink RX8 26 yX8_here, .instanceMethod yX8_here, .selects RX8 yX8_here yX8_here, .initialized RX8, .code yX8_here cX8_here 1 (some .int), .fieldLink RX8 15 "FallingWords$Text" "size" "I", .fieldLink RX8 9 "FallingWords$Text" "characters" "[C"] ++ wsX80)
def wsX8_readDigit : List Cond := .code yX8_readDigit cX8_readDigit 2 (some .boolean) :: ([.fieldLink RX8 49 "FallingWords$Text" "digit" "I", .fieldLink RX8 23 "FallingWords$Text" "at" "I", .methodLink RX8 26 yX8_here, .instanceMethod yX8_here, .selects RX8 yX8_here yX8_here, .initialized RX8, .code yX8_here cX8_here 1 (some .int), .fieldLink RX8 15 "FallingWords$Text" "size" "I", .fieldLink RX8 9 "FallingWords$Text" "characters" "[C"] ++ wsX80)
def wsX8_readCommand_r1 : List Cond := [Cond.fieldLink RX8 23 "FallingWords$Text" "at" "I", Cond.fieldLink RX8 30 "FallingWords$Text" "kind" "I", Cond.fieldLink RX8 36 "FallingWords$Text" "firstWord" "I", Cond.fieldLink RX8 43 "FallingWords$Text" "secondWord" "I", Cond.methodLink RX8 26 yX8_here, Cond.instanceMethod yX8_here, Cond.selects RX8 yX8_here yX8_here, Cond.initialized RX8, Cond.code yX8_here cX8_here 1 (some .int), Cond.fieldLink RX8 15 "FallingWords$Text" "size" "I", Cond.fieldLink RX8 9 "FallingWords$Text" "characters" "[C", Cond.methodLink RX8 33 yX8_readWord, Cond.instanceMethod yX8_readWord, Cond.selects RX8 yX8_readWord yX8_readWord, Cond.code yX8_readWord cX8_readWord 3 (some .int), Cond.static yX9_withLetter, Cond.initialized RX9, Cond.code yX9_withLetter cX9_withLetter 2 (some .int), Cond.methodLink RX8 39 yX8_passes, Cond.instanceMethod yX8_passes, Cond.selects RX8 yX8_passes yX8_passes, Cond.code yX8_passes cX8_passes 2 (some .boolean), Cond.methodLink RX8 46 yX8_readDigit, Cond.instanceMethod yX8_readDigit]
def wsX8_readCommand_r2 : List Cond := [Cond.selects RX8 yX8_readDigit yX8_readDigit, Cond.code yX8_readDigit cX8_readDigit 2 (some .boolean), Cond.fieldLink RX8 49 "FallingWords$Text" "digit" "I"]
def wsX8_readCommand : List Cond := .code yX8_readCommand cX8_readCommand 2 (some .boolean) :: ((wsX8_readCommand_r1 ++ wsX8_readCommand_r2) ++ wsX80)
def wsX5_failWith : List Cond := .code yX5_failWith cX5_failWith 3 none :: ([.fieldLink RX5 18 "FallingWords$Script" "reason" "I", .fieldLink RX5 21 "FallingWords$Script" "cause" "I"] ++ wsX50)
def wsX6_addRule : List Cond := .code yX6_addRule cX6_addRule 3 none :: ([.fieldLink RX6 12 "FallingWords$State" "rules" "LFallingWords$Rules;", .fieldLink RX6 21 "FallingWords$State" "store" "LFallingWords$Store;", .instanceMethod yX4_add, .initialized RX4, .selects RX4 yX4_add yX4_add, .code yX4_add cX4_add 3 none, .fieldLink RX4 9 "FallingWords$Rules" "left" "[I", .fieldLink RX4 33 "FallingWords$Rules" "size" "I", .fieldLink RX4 15 "FallingWords$Rules" "right" "[I", .fieldLink RX4 18 "FallingWords$Rules" "leftLength" "[I", .fieldLink RX4 21 "FallingWords$Rules" "rightLength" "[I", .fieldLink RX4 24 "FallingWords$Rules" "times" "[I", .methodLink RX4 37 yX4_isFull, .instanceMethod yX4_isFull, .selects RX4 yX4_isFull yX4_isFull, .code yX4_isFull cX4_isFull 1 (some .boolean), .static yX9_lengthOf, .initialized RX9, .code yX9_lengthOf cX9_lengthOf 3 (some .int)] ++ wsX60 ++ wsX70 ++ wsX40)
def wsX5_addRule_r1 : List Cond := [Cond.static yX9_lengthOf, Cond.initialized RX9, Cond.code yX9_lengthOf cX9_lengthOf 3 (some .int), Cond.methodLink RX5 40 yX5_failWith, Cond.instanceMethod yX5_failWith, Cond.selects RX5 yX5_failWith yX5_failWith, Cond.initialized RX5, Cond.code yX5_failWith cX5_failWith 3 none, Cond.fieldLink RX5 18 "FallingWords$Script" "reason" "I", Cond.fieldLink RX5 21 "FallingWords$Script" "cause" "I", Cond.instanceMethod yX4_hasSides, Cond.initialized RX4, Cond.selects RX4 yX4_hasSides yX4_hasSides, Cond.code yX4_hasSides cX4_hasSides 4 (some .boolean), Cond.fieldLink RX4 33 "FallingWords$Rules" "size" "I", Cond.fieldLink RX4 9 "FallingWords$Rules" "left" "[I", Cond.fieldLink RX4 15 "FallingWords$Rules" "right" "[I", Cond.instanceMethod yX4_isFull, Cond.selects RX4 yX4_isFull yX4_isFull, Cond.code yX4_isFull cX4_isFull 1 (some .boolean), Cond.instanceMethod yX6_addRule, Cond.initialized RX6, Cond.selects RX6 yX6_addRule yX6_addRule, Cond.code yX6_addRule cX6_addRule 3 none]
def wsX5_addRule_r2 : List Cond := [Cond.fieldLink RX6 12 "FallingWords$State" "rules" "LFallingWords$Rules;", Cond.fieldLink RX6 21 "FallingWords$State" "store" "LFallingWords$Store;", Cond.instanceMethod yX4_add, Cond.selects RX4 yX4_add yX4_add, Cond.code yX4_add cX4_add 3 none, Cond.fieldLink RX4 18 "FallingWords$Rules" "leftLength" "[I", Cond.fieldLink RX4 21 "FallingWords$Rules" "rightLength" "[I", Cond.fieldLink RX4 24 "FallingWords$Rules" "times" "[I", Cond.methodLink RX4 37 yX4_isFull]
def wsX5_addRule : List Cond := .code yX5_addRule cX5_addRule 6 none :: ((wsX5_addRule_r1 ++ wsX5_addRule_r2) ++ wsX60 ++ wsX50 ++ wsX40 ++ wsX70)
def wsX6_removeRule : List Cond := .code yX6_removeRule cX6_removeRule 2 none :: ([.fieldLink RX6 12 "FallingWords$State" "rules" "LFallingWords$Rules;", .fieldLink RX6 21 "FallingWords$State" "store" "LFallingWords$Store;", .instanceMethod yX4_remove, .initialized RX4, .selects RX4 yX4_remove yX4_remove, .code yX4_remove cX4_remove 3 none, .fieldLink RX4 33 "FallingWords$Rules" "size" "I", .fieldLink RX4 9 "FallingWords$Rules" "left" "[I", .fieldLink RX4 15 "FallingWords$Rules" "right" "[I", .fieldLink RX4 18 "FallingWords$Rules" "leftLength" "[I", .fieldLink RX4 21 "FallingWords$Rules" "rightLength" "[I", .fieldLink RX4 24 "FallingWords$Rules" "times" "[I", .methodLink RX4 47 yX4_contains, .instanceMethod yX4_contains, .selects RX4 yX4_contains yX4_contains, .code yX4_contains cX4_contains 2 (some .boolean)] ++ wsX60 ++ wsX70 ++ wsX40)
def wsX5_removeRule_r1 : List Cond := [Cond.instanceMethod yX4_contains, Cond.initialized RX4, Cond.selects RX4 yX4_contains yX4_contains, Cond.code yX4_contains cX4_contains 2 (some .boolean), Cond.fieldLink RX4 33 "FallingWords$Rules" "size" "I", Cond.instanceMethod yX6_removeRule, Cond.initialized RX6, Cond.selects RX6 yX6_removeRule yX6_removeRule, Cond.code yX6_removeRule cX6_removeRule 2 none, Cond.fieldLink RX6 12 "FallingWords$State" "rules" "LFallingWords$Rules;", Cond.fieldLink RX6 21 "FallingWords$State" "store" "LFallingWords$Store;", Cond.instanceMethod yX4_remove, Cond.selects RX4 yX4_remove yX4_remove, Cond.code yX4_remove cX4_remove 3 none, Cond.fieldLink RX4 9 "FallingWords$Rules" "left" "[I", Cond.fieldLink RX4 15 "FallingWords$Rules" "right" "[I", Cond.fieldLink RX4 18 "FallingWords$Rules" "leftLength" "[I", Cond.fieldLink RX4 21 "FallingWords$Rules" "rightLength" "[I", Cond.fieldLink RX4 24 "FallingWords$Rules" "times" "[I", Cond.methodLink RX4 47 yX4_contains, Cond.methodLink RX5 40 yX5_failWith, Cond.instanceMethod yX5_failWith, Cond.selects RX5 yX5_failWith yX5_failWith, Cond.initialized RX5]
def wsX5_removeRule_r2 : List Cond := [Cond.code yX5_failWith cX5_failWith 3 none, Cond.fieldLink RX5 18 "FallingWords$Script" "reason" "I", Cond.fieldLink RX5 21 "FallingWords$Script" "cause" "I"]
def wsX5_removeRule : List Cond := .code yX5_removeRule cX5_removeRule 3 none :: ((wsX5_removeRule_r1 ++ wsX5_removeRule_r2) ++ wsX60 ++ wsX40 ++ wsX70 ++ wsX50)
def wsX5_setWord : List Cond := .code yX5_setWord cX5_setWord 3 none :: ([.static yX9_lengthOf, .initialized RX9, .code yX9_lengthOf cX9_lengthOf 3 (some .int), .methodLink RX5 40 yX5_failWith, .instanceMethod yX5_failWith, .selects RX5 yX5_failWith yX5_failWith, .initialized RX5, .code yX5_failWith cX5_failWith 3 none, .fieldLink RX5 18 "FallingWords$Script" "reason" "I", .fieldLink RX5 21 "FallingWords$Script" "cause" "I"] ++ wsX60 ++ wsX50)
def wsX6_takeStep_r1 : List Cond := [Cond.fieldLink RX6 12 "FallingWords$State" "rules" "LFallingWords$Rules;", Cond.fieldLink RX6 27 "FallingWords$State" "word" "I", Cond.fieldLink RX6 31 "FallingWords$State" "choosing" "I", Cond.constant RX6 62 (-1000002), Cond.fieldLink RX6 44 "FallingWords$State" "steps" "I", Cond.instanceMethod yX4_choiceFor, Cond.initialized RX4, Cond.selects RX4 yX4_choiceFor yX4_choiceFor, Cond.code yX4_choiceFor cX4_choiceFor 12 (some .int), Cond.fieldLink RX4 33 "FallingWords$Rules" "size" "I", Cond.static yX9_lengthOf, Cond.initialized RX9, Cond.code yX9_lengthOf cX9_lengthOf 3 (some .int), Cond.methodLink RX4 51 yX4_appliesAt, Cond.instanceMethod yX4_appliesAt, Cond.selects RX4 yX4_appliesAt yX4_appliesAt, Cond.code yX4_appliesAt cX4_appliesAt 8 (some .boolean), Cond.fieldLink RX4 18 "FallingWords$Rules" "leftLength" "[I", Cond.fieldLink RX4 9 "FallingWords$Rules" "left" "[I", Cond.static yX4_ruleIn, Cond.code yX4_ruleIn cX4_ruleIn 1 (some .int), Cond.static yX4_placeIn, Cond.code yX4_placeIn cX4_placeIn 1 (some .int), Cond.instanceMethod yX4_applied]
def wsX6_takeStep_r2 : List Cond := [Cond.selects RX4 yX4_applied yX4_applied, Cond.code yX4_applied cX4_applied 9 (some .int), Cond.fieldLink RX4 15 "FallingWords$Rules" "right" "[I", Cond.fieldLink RX4 21 "FallingWords$Rules" "rightLength" "[I", Cond.static yX9_lastBits, Cond.code yX9_lastBits cX9_lastBits 2 (some .int)]
def wsX6_takeStep : List Cond := .code yX6_takeStep cX6_takeStep 3 (some .int) :: ((wsX6_takeStep_r1 ++ wsX6_takeStep_r2) ++ wsX60 ++ wsX40)
def wsX7_indexOf : List Cond := .code yX7_indexOf cX7_indexOf 3 (some .int) :: ([.fieldLink RX7 24 "FallingWords$Store" "size" "I", .fieldLink RX7 9 "FallingWords$Store" "words" "[I"] ++ wsX70)
def wsX7_setAhead : List Cond := .code yX7_setAhead cX7_setAhead 5 none :: ([.fieldLink RX7 9 "FallingWords$Store" "words" "[I", .fieldLink RX7 15 "FallingWords$Store" "normals" "[I"] ++ wsX70)
def wsX7_use : List Cond := .code yX7_use cX7_use 3 (some .int) :: ([.fieldLink RX7 15 "FallingWords$Store" "normals" "[I", .fieldLink RX7 9 "FallingWords$Store" "words" "[I", .methodLink RX7 28 yX7_setAhead, .instanceMethod yX7_setAhead, .selects RX7 yX7_setAhead yX7_setAhead, .initialized RX7, .code yX7_setAhead cX7_setAhead 5 none] ++ wsX70)
def wsX7_put : List Cond := .code yX7_put cX7_put 3 none :: ([.fieldLink RX7 24 "FallingWords$Store" "size" "I", .methodLink RX7 28 yX7_setAhead, .instanceMethod yX7_setAhead, .selects RX7 yX7_setAhead yX7_setAhead, .initialized RX7, .code yX7_setAhead cX7_setAhead 5 none, .fieldLink RX7 9 "FallingWords$Store" "words" "[I", .fieldLink RX7 15 "FallingWords$Store" "normals" "[I"] ++ wsX70)
def wsX6_reduce_r1 : List Cond := [Cond.fieldLink RX6 21 "FallingWords$State" "store" "LFallingWords$Store;", Cond.fieldLink RX6 27 "FallingWords$State" "word" "I", Cond.fieldLink RX6 41 "FallingWords$State" "taken" "I", Cond.fieldLink RX6 12 "FallingWords$State" "rules" "LFallingWords$Rules;", Cond.fieldLink RX6 31 "FallingWords$State" "choosing" "I", Cond.constant RX6 62 (-1000002), Cond.constant RX6 93 (-1000003), Cond.fieldLink RX6 44 "FallingWords$State" "steps" "I", Cond.instanceMethod yX7_indexOf, Cond.initialized RX7, Cond.selects RX7 yX7_indexOf yX7_indexOf, Cond.code yX7_indexOf cX7_indexOf 3 (some .int), Cond.fieldLink RX7 24 "FallingWords$Store" "size" "I", Cond.fieldLink RX7 9 "FallingWords$Store" "words" "[I", Cond.instanceMethod yX7_use, Cond.selects RX7 yX7_use yX7_use, Cond.code yX7_use cX7_use 3 (some .int), Cond.fieldLink RX7 15 "FallingWords$Store" "normals" "[I", Cond.methodLink RX7 28 yX7_setAhead, Cond.instanceMethod yX7_setAhead, Cond.selects RX7 yX7_setAhead yX7_setAhead, Cond.code yX7_setAhead cX7_setAhead 5 none, Cond.instanceMethod yX3_run, Cond.initialized RX3]
def wsX6_reduce_r2 : List Cond := [Cond.selects RX3 yX3_run yX3_run, Cond.code yX3_run cX3_run 5 none, Cond.fieldLink RX3 9 "FallingWords$Reduction" "words" "[I", Cond.fieldLink RX3 18 "FallingWords$Reduction" "steps" "I", Cond.fieldLink RX3 26 "FallingWords$Reduction" "ringStart" "I", Cond.fieldLink RX3 29 "FallingWords$Reduction" "outcome" "I", Cond.fieldLink RX3 15 "FallingWords$Reduction" "rulesUsed" "[I", Cond.methodLink RX3 22 yX3_firstTimeOf, Cond.instanceMethod yX3_firstTimeOf, Cond.selects RX3 yX3_firstTimeOf yX3_firstTimeOf, Cond.code yX3_firstTimeOf cX3_firstTimeOf 3 (some .int), Cond.instanceMethod yX4_choiceFor, Cond.initialized RX4, Cond.selects RX4 yX4_choiceFor yX4_choiceFor, Cond.code yX4_choiceFor cX4_choiceFor 12 (some .int), Cond.fieldLink RX4 33 "FallingWords$Rules" "size" "I", Cond.static yX9_lengthOf, Cond.initialized RX9, Cond.code yX9_lengthOf cX9_lengthOf 3 (some .int), Cond.methodLink RX4 51 yX4_appliesAt, Cond.instanceMethod yX4_appliesAt, Cond.selects RX4 yX4_appliesAt yX4_appliesAt, Cond.code yX4_appliesAt cX4_appliesAt 8 (some .boolean), Cond.fieldLink RX4 18 "FallingWords$Rules" "leftLength" "[I"]
def wsX6_reduce_r3 : List Cond := [Cond.fieldLink RX4 9 "FallingWords$Rules" "left" "[I", Cond.static yX4_ruleIn, Cond.code yX4_ruleIn cX4_ruleIn 1 (some .int), Cond.static yX4_placeIn, Cond.code yX4_placeIn cX4_placeIn 1 (some .int), Cond.instanceMethod yX4_applied, Cond.selects RX4 yX4_applied yX4_applied, Cond.code yX4_applied cX4_applied 9 (some .int), Cond.fieldLink RX4 15 "FallingWords$Rules" "right" "[I", Cond.fieldLink RX4 21 "FallingWords$Rules" "rightLength" "[I", Cond.static yX9_lastBits, Cond.code yX9_lastBits cX9_lastBits 2 (some .int), Cond.instanceMethod yX3_countRules, Cond.selects RX3 yX3_countRules yX3_countRules, Cond.code yX3_countRules cX3_countRules 3 none, Cond.instanceMethod yX3_last, Cond.selects RX3 yX3_last yX3_last, Cond.code yX3_last cX3_last 1 (some .int), Cond.instanceMethod yX7_put, Cond.selects RX7 yX7_put yX7_put, Cond.code yX7_put cX7_put 3 none]
def wsX6_reduce : List Cond := .code yX6_reduce cX6_reduce 3 (some .int) :: ((wsX6_reduce_r1 ++ (wsX6_reduce_r2 ++ wsX6_reduce_r3)) ++ wsX60 ++ wsX30 ++ wsX70 ++ wsX40)
def wsX6_setChoosing : List Cond := .code yX6_setChoosing cX6_setChoosing 2 none :: ([.fieldLink RX6 31 "FallingWords$State" "choosing" "I", .fieldLink RX6 21 "FallingWords$State" "store" "LFallingWords$Store;"] ++ wsX60 ++ wsX70)
def wsX5_setChoosing : List Cond := .code yX5_setChoosing cX5_setChoosing 3 none :: ([.instanceMethod yX6_setChoosing, .initialized RX6, .selects RX6 yX6_setChoosing yX6_setChoosing, .code yX6_setChoosing cX6_setChoosing 2 none, .fieldLink RX6 31 "FallingWords$State" "choosing" "I", .fieldLink RX6 21 "FallingWords$State" "store" "LFallingWords$Store;", .methodLink RX5 40 yX5_failWith, .instanceMethod yX5_failWith, .selects RX5 yX5_failWith yX5_failWith, .initialized RX5, .code yX5_failWith cX5_failWith 3 none, .fieldLink RX5 18 "FallingWords$Script" "reason" "I", .fieldLink RX5 21 "FallingWords$Script" "cause" "I"] ++ wsX60 ++ wsX70 ++ wsX50)
def wsX5_perform_r1 : List Cond := [Cond.methodLink RX5 53 yX5_addRule, Cond.instanceMethod yX5_addRule, Cond.selects RX5 yX5_addRule yX5_addRule, Cond.initialized RX5, Cond.code yX5_addRule cX5_addRule 6 none, Cond.static yX9_lengthOf, Cond.initialized RX9, Cond.code yX9_lengthOf cX9_lengthOf 3 (some .int), Cond.methodLink RX5 40 yX5_failWith, Cond.instanceMethod yX5_failWith, Cond.selects RX5 yX5_failWith yX5_failWith, Cond.code yX5_failWith cX5_failWith 3 none, Cond.fieldLink RX5 18 "FallingWords$Script" "reason" "I", Cond.fieldLink RX5 21 "FallingWords$Script" "cause" "I", Cond.instanceMethod yX4_hasSides, Cond.initialized RX4, Cond.selects RX4 yX4_hasSides yX4_hasSides, Cond.code yX4_hasSides cX4_hasSides 4 (some .boolean), Cond.fieldLink RX4 33 "FallingWords$Rules" "size" "I", Cond.fieldLink RX4 9 "FallingWords$Rules" "left" "[I", Cond.fieldLink RX4 15 "FallingWords$Rules" "right" "[I", Cond.instanceMethod yX4_isFull, Cond.selects RX4 yX4_isFull yX4_isFull, Cond.code yX4_isFull cX4_isFull 1 (some .boolean)]
def wsX5_perform_r2 : List Cond := [Cond.instanceMethod yX6_addRule, Cond.initialized RX6, Cond.selects RX6 yX6_addRule yX6_addRule, Cond.code yX6_addRule cX6_addRule 3 none, Cond.fieldLink RX6 12 "FallingWords$State" "rules" "LFallingWords$Rules;", Cond.fieldLink RX6 21 "FallingWords$State" "store" "LFallingWords$Store;", Cond.instanceMethod yX4_add, Cond.selects RX4 yX4_add yX4_add, Cond.code yX4_add cX4_add 3 none, Cond.fieldLink RX4 18 "FallingWords$Rules" "leftLength" "[I", Cond.fieldLink RX4 21 "FallingWords$Rules" "rightLength" "[I", Cond.fieldLink RX4 24 "FallingWords$Rules" "times" "[I", Cond.methodLink RX4 37 yX4_isFull, Cond.methodLink RX5 60 yX5_removeRule, Cond.instanceMethod yX5_removeRule, Cond.selects RX5 yX5_removeRule yX5_removeRule, Cond.code yX5_removeRule cX5_removeRule 3 none, Cond.instanceMethod yX4_contains, Cond.selects RX4 yX4_contains yX4_contains, Cond.code yX4_contains cX4_contains 2 (some .boolean), Cond.instanceMethod yX6_removeRule, Cond.selects RX6 yX6_removeRule yX6_removeRule, Cond.code yX6_removeRule cX6_removeRule 2 none, Cond.instanceMethod yX4_remove]
def wsX5_perform_r3 : List Cond := [Cond.selects RX4 yX4_remove yX4_remove, Cond.code yX4_remove cX4_remove 3 none, Cond.methodLink RX4 47 yX4_contains, Cond.methodLink RX5 64 yX5_setWord, Cond.instanceMethod yX5_setWord, Cond.selects RX5 yX5_setWord yX5_setWord, Cond.code yX5_setWord cX5_setWord 3 none, Cond.instanceMethod yX6_takeStep, Cond.selects RX6 yX6_takeStep yX6_takeStep, Cond.code yX6_takeStep cX6_takeStep 3 (some .int), Cond.fieldLink RX6 27 "FallingWords$State" "word" "I", Cond.fieldLink RX6 31 "FallingWords$State" "choosing" "I", Cond.constant RX6 62 (-1000002), Cond.fieldLink RX6 44 "FallingWords$State" "steps" "I", Cond.instanceMethod yX4_choiceFor, Cond.selects RX4 yX4_choiceFor yX4_choiceFor, Cond.code yX4_choiceFor cX4_choiceFor 12 (some .int), Cond.methodLink RX4 51 yX4_appliesAt, Cond.instanceMethod yX4_appliesAt, Cond.selects RX4 yX4_appliesAt yX4_appliesAt, Cond.code yX4_appliesAt cX4_appliesAt 8 (some .boolean), Cond.static yX4_ruleIn, Cond.code yX4_ruleIn cX4_ruleIn 1 (some .int), Cond.static yX4_placeIn]
def wsX5_perform_r4 : List Cond := [Cond.code yX4_placeIn cX4_placeIn 1 (some .int), Cond.instanceMethod yX4_applied, Cond.selects RX4 yX4_applied yX4_applied, Cond.code yX4_applied cX4_applied 9 (some .int), Cond.static yX9_lastBits, Cond.code yX9_lastBits cX9_lastBits 2 (some .int), Cond.instanceMethod yX6_reduce, Cond.selects RX6 yX6_reduce yX6_reduce, Cond.code yX6_reduce cX6_reduce 3 (some .int), Cond.fieldLink RX6 41 "FallingWords$State" "taken" "I", Cond.constant RX6 93 (-1000003), Cond.instanceMethod yX7_indexOf, Cond.initialized RX7, Cond.selects RX7 yX7_indexOf yX7_indexOf, Cond.code yX7_indexOf cX7_indexOf 3 (some .int), Cond.fieldLink RX7 24 "FallingWords$Store" "size" "I", Cond.fieldLink RX7 9 "FallingWords$Store" "words" "[I", Cond.instanceMethod yX7_use, Cond.selects RX7 yX7_use yX7_use, Cond.code yX7_use cX7_use 3 (some .int), Cond.fieldLink RX7 15 "FallingWords$Store" "normals" "[I", Cond.methodLink RX7 28 yX7_setAhead, Cond.instanceMethod yX7_setAhead, Cond.selects RX7 yX7_setAhead yX7_setAhead]
def wsX5_perform_r5 : List Cond := [Cond.code yX7_setAhead cX7_setAhead 5 none, Cond.instanceMethod yX3_run, Cond.initialized RX3, Cond.selects RX3 yX3_run yX3_run, Cond.code yX3_run cX3_run 5 none, Cond.fieldLink RX3 9 "FallingWords$Reduction" "words" "[I", Cond.fieldLink RX3 18 "FallingWords$Reduction" "steps" "I", Cond.fieldLink RX3 26 "FallingWords$Reduction" "ringStart" "I", Cond.fieldLink RX3 29 "FallingWords$Reduction" "outcome" "I", Cond.fieldLink RX3 15 "FallingWords$Reduction" "rulesUsed" "[I", Cond.methodLink RX3 22 yX3_firstTimeOf, Cond.instanceMethod yX3_firstTimeOf, Cond.selects RX3 yX3_firstTimeOf yX3_firstTimeOf, Cond.code yX3_firstTimeOf cX3_firstTimeOf 3 (some .int), Cond.instanceMethod yX3_countRules, Cond.selects RX3 yX3_countRules yX3_countRules, Cond.code yX3_countRules cX3_countRules 3 none, Cond.instanceMethod yX3_last, Cond.selects RX3 yX3_last yX3_last, Cond.code yX3_last cX3_last 1 (some .int), Cond.instanceMethod yX7_put, Cond.selects RX7 yX7_put yX7_put, Cond.code yX7_put cX7_put 3 none, Cond.methodLink RX5 77 yX5_setChoosing]
def wsX5_perform_r6 : List Cond := [Cond.instanceMethod yX5_setChoosing, Cond.selects RX5 yX5_setChoosing yX5_setChoosing, Cond.code yX5_setChoosing cX5_setChoosing 3 none, Cond.instanceMethod yX6_setChoosing, Cond.selects RX6 yX6_setChoosing yX6_setChoosing, Cond.code yX6_setChoosing cX6_setChoosing 2 none]
def wsX5_perform : List Cond := .code yX5_perform cX5_perform 4 none :: ((wsX5_perform_r1 ++ (wsX5_perform_r2 ++ (wsX5_perform_r3 ++ (wsX5_perform_r4 ++ (wsX5_perform_r5 ++ wsX5_perform_r6))))) ++ wsX80 ++ wsX60 ++ wsX50 ++ wsX40 ++ wsX70 ++ wsX30)
def wsX5_run_r1 : List Cond := [Cond.fieldLink RX5 9 "FallingWords$Script" "done" "I", Cond.fieldLink RX5 15 "FallingWords$Script" "position" "I", Cond.fieldLink RX5 18 "FallingWords$Script" "reason" "I", Cond.fieldLink RX5 21 "FallingWords$Script" "cause" "I", Cond.instanceMethod yX8_readCommand, Cond.initialized RX8, Cond.selects RX8 yX8_readCommand yX8_readCommand, Cond.code yX8_readCommand cX8_readCommand 2 (some .boolean), Cond.fieldLink RX8 23 "FallingWords$Text" "at" "I", Cond.fieldLink RX8 30 "FallingWords$Text" "kind" "I", Cond.fieldLink RX8 36 "FallingWords$Text" "firstWord" "I", Cond.fieldLink RX8 43 "FallingWords$Text" "secondWord" "I", Cond.methodLink RX8 26 yX8_here, Cond.instanceMethod yX8_here, Cond.selects RX8 yX8_here yX8_here, Cond.code yX8_here cX8_here 1 (some .int), Cond.fieldLink RX8 15 "FallingWords$Text" "size" "I", Cond.fieldLink RX8 9 "FallingWords$Text" "characters" "[C", Cond.methodLink RX8 33 yX8_readWord, Cond.instanceMethod yX8_readWord, Cond.selects RX8 yX8_readWord yX8_readWord, Cond.code yX8_readWord cX8_readWord 3 (some .int), Cond.static yX9_withLetter, Cond.initialized RX9]
def wsX5_run_r2 : List Cond := [Cond.code yX9_withLetter cX9_withLetter 2 (some .int), Cond.methodLink RX8 39 yX8_passes, Cond.instanceMethod yX8_passes, Cond.selects RX8 yX8_passes yX8_passes, Cond.code yX8_passes cX8_passes 2 (some .boolean), Cond.methodLink RX8 46 yX8_readDigit, Cond.instanceMethod yX8_readDigit, Cond.selects RX8 yX8_readDigit yX8_readDigit, Cond.code yX8_readDigit cX8_readDigit 2 (some .boolean), Cond.fieldLink RX8 49 "FallingWords$Text" "digit" "I", Cond.methodLink RX5 33 yX5_perform, Cond.instanceMethod yX5_perform, Cond.selects RX5 yX5_perform yX5_perform, Cond.initialized RX5, Cond.code yX5_perform cX5_perform 4 none, Cond.methodLink RX5 53 yX5_addRule, Cond.instanceMethod yX5_addRule, Cond.selects RX5 yX5_addRule yX5_addRule, Cond.code yX5_addRule cX5_addRule 6 none, Cond.static yX9_lengthOf, Cond.code yX9_lengthOf cX9_lengthOf 3 (some .int), Cond.methodLink RX5 40 yX5_failWith, Cond.instanceMethod yX5_failWith, Cond.selects RX5 yX5_failWith yX5_failWith]
def wsX5_run_r3 : List Cond := [Cond.code yX5_failWith cX5_failWith 3 none, Cond.instanceMethod yX4_hasSides, Cond.initialized RX4, Cond.selects RX4 yX4_hasSides yX4_hasSides, Cond.code yX4_hasSides cX4_hasSides 4 (some .boolean), Cond.fieldLink RX4 33 "FallingWords$Rules" "size" "I", Cond.fieldLink RX4 9 "FallingWords$Rules" "left" "[I", Cond.fieldLink RX4 15 "FallingWords$Rules" "right" "[I", Cond.instanceMethod yX4_isFull, Cond.selects RX4 yX4_isFull yX4_isFull, Cond.code yX4_isFull cX4_isFull 1 (some .boolean), Cond.instanceMethod yX6_addRule, Cond.initialized RX6, Cond.selects RX6 yX6_addRule yX6_addRule, Cond.code yX6_addRule cX6_addRule 3 none, Cond.fieldLink RX6 12 "FallingWords$State" "rules" "LFallingWords$Rules;", Cond.fieldLink RX6 21 "FallingWords$State" "store" "LFallingWords$Store;", Cond.instanceMethod yX4_add, Cond.selects RX4 yX4_add yX4_add, Cond.code yX4_add cX4_add 3 none, Cond.fieldLink RX4 18 "FallingWords$Rules" "leftLength" "[I", Cond.fieldLink RX4 21 "FallingWords$Rules" "rightLength" "[I", Cond.fieldLink RX4 24 "FallingWords$Rules" "times" "[I", Cond.methodLink RX4 37 yX4_isFull]
def wsX5_run_r4 : List Cond := [Cond.methodLink RX5 60 yX5_removeRule, Cond.instanceMethod yX5_removeRule, Cond.selects RX5 yX5_removeRule yX5_removeRule, Cond.code yX5_removeRule cX5_removeRule 3 none, Cond.instanceMethod yX4_contains, Cond.selects RX4 yX4_contains yX4_contains, Cond.code yX4_contains cX4_contains 2 (some .boolean), Cond.instanceMethod yX6_removeRule, Cond.selects RX6 yX6_removeRule yX6_removeRule, Cond.code yX6_removeRule cX6_removeRule 2 none, Cond.instanceMethod yX4_remove, Cond.selects RX4 yX4_remove yX4_remove, Cond.code yX4_remove cX4_remove 3 none, Cond.methodLink RX4 47 yX4_contains, Cond.methodLink RX5 64 yX5_setWord, Cond.instanceMethod yX5_setWord, Cond.selects RX5 yX5_setWord yX5_setWord, Cond.code yX5_setWord cX5_setWord 3 none, Cond.instanceMethod yX6_takeStep, Cond.selects RX6 yX6_takeStep yX6_takeStep, Cond.code yX6_takeStep cX6_takeStep 3 (some .int), Cond.fieldLink RX6 27 "FallingWords$State" "word" "I", Cond.fieldLink RX6 31 "FallingWords$State" "choosing" "I", Cond.constant RX6 62 (-1000002)]
def wsX5_run_r5 : List Cond := [Cond.fieldLink RX6 44 "FallingWords$State" "steps" "I", Cond.instanceMethod yX4_choiceFor, Cond.selects RX4 yX4_choiceFor yX4_choiceFor, Cond.code yX4_choiceFor cX4_choiceFor 12 (some .int), Cond.methodLink RX4 51 yX4_appliesAt, Cond.instanceMethod yX4_appliesAt, Cond.selects RX4 yX4_appliesAt yX4_appliesAt, Cond.code yX4_appliesAt cX4_appliesAt 8 (some .boolean), Cond.static yX4_ruleIn, Cond.code yX4_ruleIn cX4_ruleIn 1 (some .int), Cond.static yX4_placeIn, Cond.code yX4_placeIn cX4_placeIn 1 (some .int), Cond.instanceMethod yX4_applied, Cond.selects RX4 yX4_applied yX4_applied, Cond.code yX4_applied cX4_applied 9 (some .int), Cond.static yX9_lastBits, Cond.code yX9_lastBits cX9_lastBits 2 (some .int), Cond.instanceMethod yX6_reduce, Cond.selects RX6 yX6_reduce yX6_reduce, Cond.code yX6_reduce cX6_reduce 3 (some .int), Cond.fieldLink RX6 41 "FallingWords$State" "taken" "I", Cond.constant RX6 93 (-1000003), Cond.instanceMethod yX7_indexOf, Cond.initialized RX7]
def wsX5_run_r6 : List Cond := [Cond.selects RX7 yX7_indexOf yX7_indexOf, Cond.code yX7_indexOf cX7_indexOf 3 (some .int), Cond.fieldLink RX7 24 "FallingWords$Store" "size" "I", Cond.fieldLink RX7 9 "FallingWords$Store" "words" "[I", Cond.instanceMethod yX7_use, Cond.selects RX7 yX7_use yX7_use, Cond.code yX7_use cX7_use 3 (some .int), Cond.fieldLink RX7 15 "FallingWords$Store" "normals" "[I", Cond.methodLink RX7 28 yX7_setAhead, Cond.instanceMethod yX7_setAhead, Cond.selects RX7 yX7_setAhead yX7_setAhead, Cond.code yX7_setAhead cX7_setAhead 5 none, Cond.instanceMethod yX3_run, Cond.initialized RX3, Cond.selects RX3 yX3_run yX3_run, Cond.code yX3_run cX3_run 5 none, Cond.fieldLink RX3 9 "FallingWords$Reduction" "words" "[I", Cond.fieldLink RX3 18 "FallingWords$Reduction" "steps" "I", Cond.fieldLink RX3 26 "FallingWords$Reduction" "ringStart" "I", Cond.fieldLink RX3 29 "FallingWords$Reduction" "outcome" "I", Cond.fieldLink RX3 15 "FallingWords$Reduction" "rulesUsed" "[I", Cond.methodLink RX3 22 yX3_firstTimeOf, Cond.instanceMethod yX3_firstTimeOf, Cond.selects RX3 yX3_firstTimeOf yX3_firstTimeOf]
def wsX5_run_r7 : List Cond := [Cond.code yX3_firstTimeOf cX3_firstTimeOf 3 (some .int), Cond.instanceMethod yX3_countRules, Cond.selects RX3 yX3_countRules yX3_countRules, Cond.code yX3_countRules cX3_countRules 3 none, Cond.instanceMethod yX3_last, Cond.selects RX3 yX3_last yX3_last, Cond.code yX3_last cX3_last 1 (some .int), Cond.instanceMethod yX7_put, Cond.selects RX7 yX7_put yX7_put, Cond.code yX7_put cX7_put 3 none, Cond.methodLink RX5 77 yX5_setChoosing, Cond.instanceMethod yX5_setChoosing, Cond.selects RX5 yX5_setChoosing yX5_setChoosing, Cond.code yX5_setChoosing cX5_setChoosing 3 none, Cond.instanceMethod yX6_setChoosing, Cond.selects RX6 yX6_setChoosing yX6_setChoosing, Cond.code yX6_setChoosing cX6_setChoosing 2 none]
def wsX5_run : List Cond := .code yX5_run cX5_run 5 none :: ((wsX5_run_r1 ++ (wsX5_run_r2 ++ (wsX5_run_r3 ++ (wsX5_run_r4 ++ (wsX5_run_r5 ++ (wsX5_run_r6 ++ wsX5_run_r7)))))) ++ wsX50 ++ wsX80 ++ wsX60 ++ wsX40 ++ wsX70 ++ wsX30)
def wsX8_init : List Cond := .code yX8_init cX8_init 1 none :: ([.methodLink RX8 3 objectInit, .instanceMethod objectInit, .code objectInit ⟨#[0xb1]⟩ 1 none, .arrayClass .char, .fieldLink RX8 9 "FallingWords$Text" "characters" "[C"] ++ wsX80)
def wsX8_isFull : List Cond := .code yX8_isFull cX8_isFull 1 (some .boolean) :: ([.fieldLink RX8 15 "FallingWords$Text" "size" "I"] ++ wsX80)
def wsX8_append : List Cond := .code yX8_append cX8_append 2 none :: ([.fieldLink RX8 9 "FallingWords$Text" "characters" "[C", .fieldLink RX8 15 "FallingWords$Text" "size" "I", .methodLink RX8 19 yX8_isFull, .instanceMethod yX8_isFull, .selects RX8 yX8_isFull yX8_isFull, .initialized RX8, .code yX8_isFull cX8_isFull 1 (some .boolean)] ++ wsX80)
def wsX9_letterOf : List Cond := .code yX9_letterOf cX9_letterOf 3 (some .int) :: ([.constant RX9 15 (-1000004), .methodLink RX9 9 yX9_lengthOf, .static yX9_lengthOf, .initialized RX9, .code yX9_lengthOf cX9_lengthOf 3 (some .int)])
def wsX10_init_r1 : List Cond := [Cond.methodLink RX10 1 objectInit, Cond.instanceMethod objectInit, Cond.code objectInit ⟨#[0xb1]⟩ 1 none, Cond.classLink RX10 7 RX6, Cond.instantiable RX6 6, Cond.initialized RX6, Cond.fieldLink RX10 10 "FallingWords" "now" "LFallingWords$State;", Cond.fieldLink RX10 16 "FallingWords" "trial" "LFallingWords$State;", Cond.classLink RX10 19 RX0, Cond.instantiable RX0 2, Cond.initialized RX0, Cond.fieldLink RX10 22 "FallingWords" "history" "LFallingWords$History;", Cond.classLink RX10 26 RX3, Cond.instantiable RX3 5, Cond.initialized RX3, Cond.fieldLink RX10 29 "FallingWords" "reduction" "LFallingWords$Reduction;", Cond.classLink RX10 33 RX2, Cond.instantiable RX2 7, Cond.initialized RX2, Cond.fieldLink RX10 36 "FallingWords" "reach" "LFallingWords$Reach;", Cond.classLink RX10 40 RX1, Cond.instantiable RX1 6, Cond.initialized RX1, Cond.fieldLink RX10 43 "FallingWords" "overlaps" "LFallingWords$Overlaps;"]
def wsX10_init_r2 : List Cond := [Cond.classLink RX10 47 RX8, Cond.instantiable RX8 7, Cond.initialized RX8, Cond.fieldLink RX10 50 "FallingWords" "text" "LFallingWords$Text;", Cond.classLink RX10 54 RX5, Cond.instantiable RX5 4, Cond.initialized RX5, Cond.fieldLink RX10 57 "FallingWords" "script" "LFallingWords$Script;", Cond.instanceMethod yX6_init, Cond.code yX6_init cX6_init 1 none, Cond.methodLink RX6 3 objectInit, Cond.classLink RX6 9 RX4, Cond.instantiable RX4 6, Cond.initialized RX4, Cond.fieldLink RX6 12 "FallingWords$State" "rules" "LFallingWords$Rules;", Cond.classLink RX6 18 RX7, Cond.instantiable RX7 3, Cond.initialized RX7, Cond.fieldLink RX6 21 "FallingWords$State" "store" "LFallingWords$Store;", Cond.fieldLink RX6 27 "FallingWords$State" "word" "I", Cond.fieldLink RX6 31 "FallingWords$State" "choosing" "I", Cond.instanceMethod yX4_init, Cond.code yX4_init cX4_init 1 none, Cond.methodLink RX4 3 objectInit]
def wsX10_init_r3 : List Cond := [Cond.arrayClass .int, Cond.fieldLink RX4 9 "FallingWords$Rules" "left" "[I", Cond.fieldLink RX4 15 "FallingWords$Rules" "right" "[I", Cond.fieldLink RX4 18 "FallingWords$Rules" "leftLength" "[I", Cond.fieldLink RX4 21 "FallingWords$Rules" "rightLength" "[I", Cond.fieldLink RX4 24 "FallingWords$Rules" "times" "[I", Cond.instanceMethod yX7_init, Cond.code yX7_init cX7_init 1 none, Cond.methodLink RX7 3 objectInit, Cond.fieldLink RX7 9 "FallingWords$Store" "words" "[I", Cond.fieldLink RX7 15 "FallingWords$Store" "normals" "[I", Cond.instanceMethod yX0_init, Cond.code yX0_init cX0_init 2 none, Cond.methodLink RX0 3 objectInit, Cond.classLink RX0 9 RX6, Cond.fieldLink RX0 11 "FallingWords$History" "states" "[LFallingWords$State;", Cond.instanceMethod yX3_init, Cond.code yX3_init cX3_init 1 none, Cond.methodLink RX3 3 objectInit, Cond.fieldLink RX3 9 "FallingWords$Reduction" "words" "[I", Cond.fieldLink RX3 15 "FallingWords$Reduction" "rulesUsed" "[I", Cond.instanceMethod yX2_init, Cond.code yX2_init cX2_init 1 none, Cond.methodLink RX2 3 objectInit]
def wsX10_init_r4 : List Cond := [Cond.fieldLink RX2 9 "FallingWords$Reach" "words" "[I", Cond.fieldLink RX2 15 "FallingWords$Reach" "seats" "[I", Cond.instanceMethod yX1_init, Cond.code yX1_init cX1_init 1 none, Cond.methodLink RX1 3 objectInit, Cond.instanceMethod yX8_init, Cond.code yX8_init cX8_init 1 none, Cond.methodLink RX8 3 objectInit, Cond.arrayClass .char, Cond.fieldLink RX8 9 "FallingWords$Text" "characters" "[C", Cond.instanceMethod yX5_init, Cond.code yX5_init cX5_init 1 none, Cond.methodLink RX5 3 objectInit]
def wsX10_init : List Cond := .code yX10_init cX10_init 1 none :: ((wsX10_init_r1 ++ (wsX10_init_r2 ++ (wsX10_init_r3 ++ wsX10_init_r4))) ++ wsX60 ++ wsX100 ++ wsX00 ++ wsX30 ++ wsX20 ++ wsX10 ++ wsX80 ++ wsX50 ++ wsX40 ++ wsX70)
def wsX10_startTrial_r1 : List Cond := [Cond.fieldLink RX10 16 "FallingWords" "trial" "LFallingWords$State;", Cond.fieldLink RX10 10 "FallingWords" "now" "LFallingWords$State;", Cond.instanceMethod yX6_takeOver, Cond.initialized RX6, Cond.selects RX6 yX6_takeOver yX6_takeOver, Cond.code yX6_takeOver cX6_takeOver 2 none, Cond.fieldLink RX6 12 "FallingWords$State" "rules" "LFallingWords$Rules;", Cond.fieldLink RX6 21 "FallingWords$State" "store" "LFallingWords$Store;", Cond.fieldLink RX6 27 "FallingWords$State" "word" "I", Cond.fieldLink RX6 31 "FallingWords$State" "choosing" "I", Cond.fieldLink RX6 41 "FallingWords$State" "taken" "I", Cond.fieldLink RX6 44 "FallingWords$State" "steps" "I", Cond.instanceMethod yX4_takeOver, Cond.initialized RX4, Cond.selects RX4 yX4_takeOver yX4_takeOver, Cond.code yX4_takeOver cX4_takeOver 2 none, Cond.fieldLink RX4 9 "FallingWords$Rules" "left" "[I", Cond.methodLink RX4 27 arraycopyName, Cond.native arraycopyName, Cond.static arraycopyName, Cond.initialized "java/lang/System", Cond.fieldLink RX4 15 "FallingWords$Rules" "right" "[I", Cond.fieldLink RX4 18 "FallingWords$Rules" "leftLength" "[I", Cond.fieldLink RX4 21 "FallingWords$Rules" "rightLength" "[I"]
def wsX10_startTrial_r2 : List Cond := [Cond.fieldLink RX4 24 "FallingWords$Rules" "times" "[I", Cond.fieldLink RX4 33 "FallingWords$Rules" "size" "I", Cond.instanceMethod yX7_takeOver, Cond.initialized RX7, Cond.selects RX7 yX7_takeOver yX7_takeOver, Cond.code yX7_takeOver cX7_takeOver 2 none, Cond.fieldLink RX7 9 "FallingWords$Store" "words" "[I", Cond.methodLink RX7 18 arraycopyName, Cond.fieldLink RX7 15 "FallingWords$Store" "normals" "[I", Cond.fieldLink RX7 24 "FallingWords$Store" "size" "I"]
def wsX10_startTrial : List Cond := .code yX10_startTrial cX10_startTrial 1 none :: ((wsX10_startTrial_r1 ++ wsX10_startTrial_r2) ++ wsX100 ++ wsX60 ++ wsX40 ++ wsX70)
def wsX10_keepTrial_r1 : List Cond := [Cond.fieldLink RX10 22 "FallingWords" "history" "LFallingWords$History;", Cond.fieldLink RX10 10 "FallingWords" "now" "LFallingWords$State;", Cond.fieldLink RX10 16 "FallingWords" "trial" "LFallingWords$State;", Cond.instanceMethod yX0_keep, Cond.initialized RX0, Cond.selects RX0 yX0_keep yX0_keep, Cond.code yX0_keep cX0_keep 2 none, Cond.fieldLink RX0 18 "FallingWords$History" "size" "I", Cond.fieldLink RX0 11 "FallingWords$History" "states" "[LFallingWords$State;", Cond.methodLink RX0 22 yX0_forgetOldest, Cond.instanceMethod yX0_forgetOldest, Cond.selects RX0 yX0_forgetOldest yX0_forgetOldest, Cond.code yX0_forgetOldest cX0_forgetOldest 3 none, Cond.instanceMethod yX6_takeOver, Cond.initialized RX6, Cond.selects RX6 yX6_takeOver yX6_takeOver, Cond.code yX6_takeOver cX6_takeOver 2 none, Cond.fieldLink RX6 12 "FallingWords$State" "rules" "LFallingWords$Rules;", Cond.fieldLink RX6 21 "FallingWords$State" "store" "LFallingWords$Store;", Cond.fieldLink RX6 27 "FallingWords$State" "word" "I", Cond.fieldLink RX6 31 "FallingWords$State" "choosing" "I", Cond.fieldLink RX6 41 "FallingWords$State" "taken" "I", Cond.fieldLink RX6 44 "FallingWords$State" "steps" "I", Cond.instanceMethod yX4_takeOver]
def wsX10_keepTrial_r2 : List Cond := [Cond.initialized RX4, Cond.selects RX4 yX4_takeOver yX4_takeOver, Cond.code yX4_takeOver cX4_takeOver 2 none, Cond.fieldLink RX4 9 "FallingWords$Rules" "left" "[I", Cond.methodLink RX4 27 arraycopyName, Cond.native arraycopyName, Cond.static arraycopyName, Cond.initialized "java/lang/System", Cond.fieldLink RX4 15 "FallingWords$Rules" "right" "[I", Cond.fieldLink RX4 18 "FallingWords$Rules" "leftLength" "[I", Cond.fieldLink RX4 21 "FallingWords$Rules" "rightLength" "[I", Cond.fieldLink RX4 24 "FallingWords$Rules" "times" "[I", Cond.fieldLink RX4 33 "FallingWords$Rules" "size" "I", Cond.instanceMethod yX7_takeOver, Cond.initialized RX7, Cond.selects RX7 yX7_takeOver yX7_takeOver, Cond.code yX7_takeOver cX7_takeOver 2 none, Cond.fieldLink RX7 9 "FallingWords$Store" "words" "[I", Cond.methodLink RX7 18 arraycopyName, Cond.fieldLink RX7 15 "FallingWords$Store" "normals" "[I", Cond.fieldLink RX7 24 "FallingWords$Store" "size" "I"]
def wsX10_keepTrial : List Cond := .code yX10_keepTrial cX10_keepTrial 1 none :: ((wsX10_keepTrial_r1 ++ wsX10_keepTrial_r2) ++ wsX100 ++ wsX00 ++ wsX60 ++ wsX40 ++ wsX70)
def wsX10_drop_r1 : List Cond := [Cond.fieldLink RX10 10 "FallingWords" "now" "LFallingWords$State;", Cond.constant RX10 71 (-1000001), Cond.fieldLink RX10 16 "FallingWords" "trial" "LFallingWords$State;", Cond.instanceMethod yX4_contains, Cond.initialized RX4, Cond.selects RX4 yX4_contains yX4_contains, Cond.code yX4_contains cX4_contains 2 (some .boolean), Cond.fieldLink RX4 33 "FallingWords$Rules" "size" "I", Cond.methodLink RX10 72 yX10_startTrial, Cond.instanceMethod yX10_startTrial, Cond.selects RX10 yX10_startTrial yX10_startTrial, Cond.initialized RX10, Cond.code yX10_startTrial cX10_startTrial 1 none, Cond.instanceMethod yX6_takeOver, Cond.initialized RX6, Cond.selects RX6 yX6_takeOver yX6_takeOver, Cond.code yX6_takeOver cX6_takeOver 2 none, Cond.fieldLink RX6 12 "FallingWords$State" "rules" "LFallingWords$Rules;", Cond.fieldLink RX6 21 "FallingWords$State" "store" "LFallingWords$Store;", Cond.fieldLink RX6 27 "FallingWords$State" "word" "I", Cond.fieldLink RX6 31 "FallingWords$State" "choosing" "I", Cond.fieldLink RX6 41 "FallingWords$State" "taken" "I", Cond.fieldLink RX6 44 "FallingWords$State" "steps" "I", Cond.instanceMethod yX4_takeOver]
def wsX10_drop_r2 : List Cond := [Cond.selects RX4 yX4_takeOver yX4_takeOver, Cond.code yX4_takeOver cX4_takeOver 2 none, Cond.fieldLink RX4 9 "FallingWords$Rules" "left" "[I", Cond.methodLink RX4 27 arraycopyName, Cond.native arraycopyName, Cond.static arraycopyName, Cond.initialized "java/lang/System", Cond.fieldLink RX4 15 "FallingWords$Rules" "right" "[I", Cond.fieldLink RX4 18 "FallingWords$Rules" "leftLength" "[I", Cond.fieldLink RX4 21 "FallingWords$Rules" "rightLength" "[I", Cond.fieldLink RX4 24 "FallingWords$Rules" "times" "[I", Cond.instanceMethod yX7_takeOver, Cond.initialized RX7, Cond.selects RX7 yX7_takeOver yX7_takeOver, Cond.code yX7_takeOver cX7_takeOver 2 none, Cond.fieldLink RX7 9 "FallingWords$Store" "words" "[I", Cond.methodLink RX7 18 arraycopyName, Cond.fieldLink RX7 15 "FallingWords$Store" "normals" "[I", Cond.fieldLink RX7 24 "FallingWords$Store" "size" "I", Cond.instanceMethod yX6_removeRule, Cond.selects RX6 yX6_removeRule yX6_removeRule, Cond.code yX6_removeRule cX6_removeRule 2 none, Cond.instanceMethod yX4_remove, Cond.selects RX4 yX4_remove yX4_remove]
def wsX10_drop_r3 : List Cond := [Cond.code yX4_remove cX4_remove 3 none, Cond.methodLink RX4 47 yX4_contains, Cond.methodLink RX10 79 yX10_keepTrial, Cond.instanceMethod yX10_keepTrial, Cond.selects RX10 yX10_keepTrial yX10_keepTrial, Cond.code yX10_keepTrial cX10_keepTrial 1 none, Cond.fieldLink RX10 22 "FallingWords" "history" "LFallingWords$History;", Cond.instanceMethod yX0_keep, Cond.initialized RX0, Cond.selects RX0 yX0_keep yX0_keep, Cond.code yX0_keep cX0_keep 2 none, Cond.fieldLink RX0 18 "FallingWords$History" "size" "I", Cond.fieldLink RX0 11 "FallingWords$History" "states" "[LFallingWords$State;", Cond.methodLink RX0 22 yX0_forgetOldest, Cond.instanceMethod yX0_forgetOldest, Cond.selects RX0 yX0_forgetOldest yX0_forgetOldest, Cond.code yX0_forgetOldest cX0_forgetOldest 3 none]
def wsX10_drop : List Cond := .code yX10_drop cX10_drop 2 (some .int) :: ((wsX10_drop_r1 ++ (wsX10_drop_r2 ++ wsX10_drop_r3)) ++ wsX100 ++ wsX60 ++ wsX40 ++ wsX70 ++ wsX00)
def wsX10_way_r1 : List Cond := [Cond.constant RX10 71 (-1000001), Cond.fieldLink RX10 10 "FallingWords" "now" "LFallingWords$State;", Cond.fieldLink RX10 16 "FallingWords" "trial" "LFallingWords$State;", Cond.methodLink RX10 72 yX10_startTrial, Cond.instanceMethod yX10_startTrial, Cond.selects RX10 yX10_startTrial yX10_startTrial, Cond.initialized RX10, Cond.code yX10_startTrial cX10_startTrial 1 none, Cond.instanceMethod yX6_takeOver, Cond.initialized RX6, Cond.selects RX6 yX6_takeOver yX6_takeOver, Cond.code yX6_takeOver cX6_takeOver 2 none, Cond.fieldLink RX6 12 "FallingWords$State" "rules" "LFallingWords$Rules;", Cond.fieldLink RX6 21 "FallingWords$State" "store" "LFallingWords$Store;", Cond.fieldLink RX6 27 "FallingWords$State" "word" "I", Cond.fieldLink RX6 31 "FallingWords$State" "choosing" "I", Cond.fieldLink RX6 41 "FallingWords$State" "taken" "I", Cond.fieldLink RX6 44 "FallingWords$State" "steps" "I", Cond.instanceMethod yX4_takeOver, Cond.initialized RX4, Cond.selects RX4 yX4_takeOver yX4_takeOver, Cond.code yX4_takeOver cX4_takeOver 2 none, Cond.fieldLink RX4 9 "FallingWords$Rules" "left" "[I", Cond.methodLink RX4 27 arraycopyName]
def wsX10_way_r2 : List Cond := [Cond.native arraycopyName, Cond.static arraycopyName, Cond.initialized "java/lang/System", Cond.fieldLink RX4 15 "FallingWords$Rules" "right" "[I", Cond.fieldLink RX4 18 "FallingWords$Rules" "leftLength" "[I", Cond.fieldLink RX4 21 "FallingWords$Rules" "rightLength" "[I", Cond.fieldLink RX4 24 "FallingWords$Rules" "times" "[I", Cond.fieldLink RX4 33 "FallingWords$Rules" "size" "I", Cond.instanceMethod yX7_takeOver, Cond.initialized RX7, Cond.selects RX7 yX7_takeOver yX7_takeOver, Cond.code yX7_takeOver cX7_takeOver 2 none, Cond.fieldLink RX7 9 "FallingWords$Store" "words" "[I", Cond.methodLink RX7 18 arraycopyName, Cond.fieldLink RX7 15 "FallingWords$Store" "normals" "[I", Cond.fieldLink RX7 24 "FallingWords$Store" "size" "I", Cond.instanceMethod yX6_setChoosing, Cond.selects RX6 yX6_setChoosing yX6_setChoosing, Cond.code yX6_setChoosing cX6_setChoosing 2 none, Cond.methodLink RX10 79 yX10_keepTrial, Cond.instanceMethod yX10_keepTrial, Cond.selects RX10 yX10_keepTrial yX10_keepTrial, Cond.code yX10_keepTrial cX10_keepTrial 1 none, Cond.fieldLink RX10 22 "FallingWords" "history" "LFallingWords$History;"]
def wsX10_way_r3 : List Cond := [Cond.instanceMethod yX0_keep, Cond.initialized RX0, Cond.selects RX0 yX0_keep yX0_keep, Cond.code yX0_keep cX0_keep 2 none, Cond.fieldLink RX0 18 "FallingWords$History" "size" "I", Cond.fieldLink RX0 11 "FallingWords$History" "states" "[LFallingWords$State;", Cond.methodLink RX0 22 yX0_forgetOldest, Cond.instanceMethod yX0_forgetOldest, Cond.selects RX0 yX0_forgetOldest yX0_forgetOldest, Cond.code yX0_forgetOldest cX0_forgetOldest 3 none]
def wsX10_way : List Cond := .code yX10_way cX10_way 3 (some .int) :: ((wsX10_way_r1 ++ (wsX10_way_r2 ++ wsX10_way_r3)) ++ wsX100 ++ wsX60 ++ wsX40 ++ wsX70 ++ wsX00)
def wsX10_isLetterOf : List Cond := .code yX10_isLetterOf cX10_isLetterOf 3 (some .boolean) :: ([])
def wsX10_ruleOf_r1 : List Cond := [Cond.fieldLink RX10 10 "FallingWords" "now" "LFallingWords$State;", Cond.constant RX10 71 (-1000001), Cond.instanceMethod yX4_contains, Cond.initialized RX4, Cond.selects RX4 yX4_contains yX4_contains, Cond.code yX4_contains cX4_contains 2 (some .boolean), Cond.fieldLink RX4 33 "FallingWords$Rules" "size" "I", Cond.methodLink RX10 92 yX10_isLetterOf, Cond.static yX10_isLetterOf, Cond.initialized RX10, Cond.code yX10_isLetterOf cX10_isLetterOf 3 (some .boolean), Cond.static yX9_letterOf, Cond.initialized RX9, Cond.code yX9_letterOf cX9_letterOf 3 (some .int), Cond.constant RX9 15 (-1000004), Cond.methodLink RX9 9 yX9_lengthOf, Cond.static yX9_lengthOf, Cond.code yX9_lengthOf cX9_lengthOf 3 (some .int), Cond.instanceMethod yX4_placesIn, Cond.selects RX4 yX4_placesIn yX4_placesIn, Cond.code yX4_placesIn cX4_placesIn 6 (some .int), Cond.methodLink RX4 51 yX4_appliesAt, Cond.instanceMethod yX4_appliesAt, Cond.selects RX4 yX4_appliesAt yX4_appliesAt]
def wsX10_ruleOf_r2 : List Cond := [Cond.code yX4_appliesAt cX4_appliesAt 8 (some .boolean), Cond.fieldLink RX4 18 "FallingWords$Rules" "leftLength" "[I", Cond.fieldLink RX4 9 "FallingWords$Rules" "left" "[I"]
def wsX10_ruleOf : List Cond := .code yX10_ruleOf cX10_ruleOf 4 (some .int) :: ((wsX10_ruleOf_r1 ++ wsX10_ruleOf_r2) ++ wsX100 ++ wsX60 ++ wsX40)
def wsX10_step_r1 : List Cond := [Cond.fieldLink RX10 16 "FallingWords" "trial" "LFallingWords$State;", Cond.methodLink RX10 72 yX10_startTrial, Cond.instanceMethod yX10_startTrial, Cond.selects RX10 yX10_startTrial yX10_startTrial, Cond.initialized RX10, Cond.code yX10_startTrial cX10_startTrial 1 none, Cond.fieldLink RX10 10 "FallingWords" "now" "LFallingWords$State;", Cond.instanceMethod yX6_takeOver, Cond.initialized RX6, Cond.selects RX6 yX6_takeOver yX6_takeOver, Cond.code yX6_takeOver cX6_takeOver 2 none, Cond.fieldLink RX6 12 "FallingWords$State" "rules" "LFallingWords$Rules;", Cond.fieldLink RX6 21 "FallingWords$State" "store" "LFallingWords$Store;", Cond.fieldLink RX6 27 "FallingWords$State" "word" "I", Cond.fieldLink RX6 31 "FallingWords$State" "choosing" "I", Cond.fieldLink RX6 41 "FallingWords$State" "taken" "I", Cond.fieldLink RX6 44 "FallingWords$State" "steps" "I", Cond.instanceMethod yX4_takeOver, Cond.initialized RX4, Cond.selects RX4 yX4_takeOver yX4_takeOver, Cond.code yX4_takeOver cX4_takeOver 2 none, Cond.fieldLink RX4 9 "FallingWords$Rules" "left" "[I", Cond.methodLink RX4 27 arraycopyName, Cond.native arraycopyName]
def wsX10_step_r2 : List Cond := [Cond.static arraycopyName, Cond.initialized "java/lang/System", Cond.fieldLink RX4 15 "FallingWords$Rules" "right" "[I", Cond.fieldLink RX4 18 "FallingWords$Rules" "leftLength" "[I", Cond.fieldLink RX4 21 "FallingWords$Rules" "rightLength" "[I", Cond.fieldLink RX4 24 "FallingWords$Rules" "times" "[I", Cond.fieldLink RX4 33 "FallingWords$Rules" "size" "I", Cond.instanceMethod yX7_takeOver, Cond.initialized RX7, Cond.selects RX7 yX7_takeOver yX7_takeOver, Cond.code yX7_takeOver cX7_takeOver 2 none, Cond.fieldLink RX7 9 "FallingWords$Store" "words" "[I", Cond.methodLink RX7 18 arraycopyName, Cond.fieldLink RX7 15 "FallingWords$Store" "normals" "[I", Cond.fieldLink RX7 24 "FallingWords$Store" "size" "I", Cond.instanceMethod yX6_takeStep, Cond.selects RX6 yX6_takeStep yX6_takeStep, Cond.code yX6_takeStep cX6_takeStep 3 (some .int), Cond.constant RX6 62 (-1000002), Cond.instanceMethod yX4_choiceFor, Cond.selects RX4 yX4_choiceFor yX4_choiceFor, Cond.code yX4_choiceFor cX4_choiceFor 12 (some .int), Cond.static yX9_lengthOf, Cond.initialized RX9]
def wsX10_step_r3 : List Cond := [Cond.code yX9_lengthOf cX9_lengthOf 3 (some .int), Cond.methodLink RX4 51 yX4_appliesAt, Cond.instanceMethod yX4_appliesAt, Cond.selects RX4 yX4_appliesAt yX4_appliesAt, Cond.code yX4_appliesAt cX4_appliesAt 8 (some .boolean), Cond.static yX4_ruleIn, Cond.code yX4_ruleIn cX4_ruleIn 1 (some .int), Cond.static yX4_placeIn, Cond.code yX4_placeIn cX4_placeIn 1 (some .int), Cond.instanceMethod yX4_applied, Cond.selects RX4 yX4_applied yX4_applied, Cond.code yX4_applied cX4_applied 9 (some .int), Cond.static yX9_lastBits, Cond.code yX9_lastBits cX9_lastBits 2 (some .int), Cond.methodLink RX10 79 yX10_keepTrial, Cond.instanceMethod yX10_keepTrial, Cond.selects RX10 yX10_keepTrial yX10_keepTrial, Cond.code yX10_keepTrial cX10_keepTrial 1 none, Cond.fieldLink RX10 22 "FallingWords" "history" "LFallingWords$History;", Cond.instanceMethod yX0_keep, Cond.initialized RX0, Cond.selects RX0 yX0_keep yX0_keep, Cond.code yX0_keep cX0_keep 2 none, Cond.fieldLink RX0 18 "FallingWords$History" "size" "I"]
def wsX10_step_r4 : List Cond := [Cond.fieldLink RX0 11 "FallingWords$History" "states" "[LFallingWords$State;", Cond.methodLink RX0 22 yX0_forgetOldest, Cond.instanceMethod yX0_forgetOldest, Cond.selects RX0 yX0_forgetOldest yX0_forgetOldest, Cond.code yX0_forgetOldest cX0_forgetOldest 3 none]
def wsX10_step : List Cond := .code yX10_step cX10_step 2 (some .int) :: ((wsX10_step_r1 ++ (wsX10_step_r2 ++ (wsX10_step_r3 ++ wsX10_step_r4))) ++ wsX100 ++ wsX60 ++ wsX40 ++ wsX70 ++ wsX00)
def wsX10_normal_r1 : List Cond := [Cond.fieldLink RX10 16 "FallingWords" "trial" "LFallingWords$State;", Cond.fieldLink RX10 29 "FallingWords" "reduction" "LFallingWords$Reduction;", Cond.methodLink RX10 72 yX10_startTrial, Cond.instanceMethod yX10_startTrial, Cond.selects RX10 yX10_startTrial yX10_startTrial, Cond.initialized RX10, Cond.code yX10_startTrial cX10_startTrial 1 none, Cond.fieldLink RX10 10 "FallingWords" "now" "LFallingWords$State;", Cond.instanceMethod yX6_takeOver, Cond.initialized RX6, Cond.selects RX6 yX6_takeOver yX6_takeOver, Cond.code yX6_takeOver cX6_takeOver 2 none, Cond.fieldLink RX6 12 "FallingWords$State" "rules" "LFallingWords$Rules;", Cond.fieldLink RX6 21 "FallingWords$State" "store" "LFallingWords$Store;", Cond.fieldLink RX6 27 "FallingWords$State" "word" "I", Cond.fieldLink RX6 31 "FallingWords$State" "choosing" "I", Cond.fieldLink RX6 41 "FallingWords$State" "taken" "I", Cond.fieldLink RX6 44 "FallingWords$State" "steps" "I", Cond.instanceMethod yX4_takeOver, Cond.initialized RX4, Cond.selects RX4 yX4_takeOver yX4_takeOver, Cond.code yX4_takeOver cX4_takeOver 2 none, Cond.fieldLink RX4 9 "FallingWords$Rules" "left" "[I", Cond.methodLink RX4 27 arraycopyName]
def wsX10_normal_r2 : List Cond := [Cond.native arraycopyName, Cond.static arraycopyName, Cond.initialized "java/lang/System", Cond.fieldLink RX4 15 "FallingWords$Rules" "right" "[I", Cond.fieldLink RX4 18 "FallingWords$Rules" "leftLength" "[I", Cond.fieldLink RX4 21 "FallingWords$Rules" "rightLength" "[I", Cond.fieldLink RX4 24 "FallingWords$Rules" "times" "[I", Cond.fieldLink RX4 33 "FallingWords$Rules" "size" "I", Cond.instanceMethod yX7_takeOver, Cond.initialized RX7, Cond.selects RX7 yX7_takeOver yX7_takeOver, Cond.code yX7_takeOver cX7_takeOver 2 none, Cond.fieldLink RX7 9 "FallingWords$Store" "words" "[I", Cond.methodLink RX7 18 arraycopyName, Cond.fieldLink RX7 15 "FallingWords$Store" "normals" "[I", Cond.fieldLink RX7 24 "FallingWords$Store" "size" "I", Cond.instanceMethod yX6_reduce, Cond.selects RX6 yX6_reduce yX6_reduce, Cond.code yX6_reduce cX6_reduce 3 (some .int), Cond.constant RX6 62 (-1000002), Cond.constant RX6 93 (-1000003), Cond.instanceMethod yX7_indexOf, Cond.selects RX7 yX7_indexOf yX7_indexOf, Cond.code yX7_indexOf cX7_indexOf 3 (some .int)]
def wsX10_normal_r3 : List Cond := [Cond.instanceMethod yX7_use, Cond.selects RX7 yX7_use yX7_use, Cond.code yX7_use cX7_use 3 (some .int), Cond.methodLink RX7 28 yX7_setAhead, Cond.instanceMethod yX7_setAhead, Cond.selects RX7 yX7_setAhead yX7_setAhead, Cond.code yX7_setAhead cX7_setAhead 5 none, Cond.instanceMethod yX3_run, Cond.initialized RX3, Cond.selects RX3 yX3_run yX3_run, Cond.code yX3_run cX3_run 5 none, Cond.fieldLink RX3 9 "FallingWords$Reduction" "words" "[I", Cond.fieldLink RX3 18 "FallingWords$Reduction" "steps" "I", Cond.fieldLink RX3 26 "FallingWords$Reduction" "ringStart" "I", Cond.fieldLink RX3 29 "FallingWords$Reduction" "outcome" "I", Cond.fieldLink RX3 15 "FallingWords$Reduction" "rulesUsed" "[I", Cond.methodLink RX3 22 yX3_firstTimeOf, Cond.instanceMethod yX3_firstTimeOf, Cond.selects RX3 yX3_firstTimeOf yX3_firstTimeOf, Cond.code yX3_firstTimeOf cX3_firstTimeOf 3 (some .int), Cond.instanceMethod yX4_choiceFor, Cond.selects RX4 yX4_choiceFor yX4_choiceFor, Cond.code yX4_choiceFor cX4_choiceFor 12 (some .int), Cond.static yX9_lengthOf]
def wsX10_normal_r4 : List Cond := [Cond.initialized RX9, Cond.code yX9_lengthOf cX9_lengthOf 3 (some .int), Cond.methodLink RX4 51 yX4_appliesAt, Cond.instanceMethod yX4_appliesAt, Cond.selects RX4 yX4_appliesAt yX4_appliesAt, Cond.code yX4_appliesAt cX4_appliesAt 8 (some .boolean), Cond.static yX4_ruleIn, Cond.code yX4_ruleIn cX4_ruleIn 1 (some .int), Cond.static yX4_placeIn, Cond.code yX4_placeIn cX4_placeIn 1 (some .int), Cond.instanceMethod yX4_applied, Cond.selects RX4 yX4_applied yX4_applied, Cond.code yX4_applied cX4_applied 9 (some .int), Cond.static yX9_lastBits, Cond.code yX9_lastBits cX9_lastBits 2 (some .int), Cond.instanceMethod yX3_countRules, Cond.selects RX3 yX3_countRules yX3_countRules, Cond.code yX3_countRules cX3_countRules 3 none, Cond.instanceMethod yX3_last, Cond.selects RX3 yX3_last yX3_last, Cond.code yX3_last cX3_last 1 (some .int), Cond.instanceMethod yX7_put, Cond.selects RX7 yX7_put yX7_put, Cond.code yX7_put cX7_put 3 none]
def wsX10_normal_r5 : List Cond := [Cond.methodLink RX10 79 yX10_keepTrial, Cond.instanceMethod yX10_keepTrial, Cond.selects RX10 yX10_keepTrial yX10_keepTrial, Cond.code yX10_keepTrial cX10_keepTrial 1 none, Cond.fieldLink RX10 22 "FallingWords" "history" "LFallingWords$History;", Cond.instanceMethod yX0_keep, Cond.initialized RX0, Cond.selects RX0 yX0_keep yX0_keep, Cond.code yX0_keep cX0_keep 2 none, Cond.fieldLink RX0 18 "FallingWords$History" "size" "I", Cond.fieldLink RX0 11 "FallingWords$History" "states" "[LFallingWords$State;", Cond.methodLink RX0 22 yX0_forgetOldest, Cond.instanceMethod yX0_forgetOldest, Cond.selects RX0 yX0_forgetOldest yX0_forgetOldest, Cond.code yX0_forgetOldest cX0_forgetOldest 3 none]
def wsX10_normal : List Cond := .code yX10_normal cX10_normal 2 (some .int) :: ((wsX10_normal_r1 ++ (wsX10_normal_r2 ++ (wsX10_normal_r3 ++ (wsX10_normal_r4 ++ wsX10_normal_r5)))) ++ wsX100 ++ wsX60 ++ wsX40 ++ wsX70 ++ wsX30 ++ wsX00)
def wsX10_letterAt : List Cond := .code yX10_letterAt cX10_letterAt 2 (some .int) :: ([.constant RX10 71 (-1000001), .fieldLink RX10 10 "FallingWords" "now" "LFallingWords$State;", .static yX9_letterOf, .initialized RX9, .code yX9_letterOf cX9_letterOf 3 (some .int), .constant RX9 15 (-1000004), .methodLink RX9 9 yX9_lengthOf, .static yX9_lengthOf, .code yX9_lengthOf cX9_lengthOf 3 (some .int)] ++ wsX100 ++ wsX60)
def wsX10_next : List Cond := .code yX10_next cX10_next 3 (some .int) :: ([.constant RX10 71 (-1000001), .fieldLink RX10 10 "FallingWords" "now" "LFallingWords$State;", .constant RX10 135 (-1000004), .instanceMethod yX4_choiceFor, .initialized RX4, .selects RX4 yX4_choiceFor yX4_choiceFor, .code yX4_choiceFor cX4_choiceFor 12 (some .int), .fieldLink RX4 33 "FallingWords$Rules" "size" "I", .static yX9_lengthOf, .initialized RX9, .code yX9_lengthOf cX9_lengthOf 3 (some .int), .methodLink RX4 51 yX4_appliesAt, .instanceMethod yX4_appliesAt, .selects RX4 yX4_appliesAt yX4_appliesAt, .code yX4_appliesAt cX4_appliesAt 8 (some .boolean), .fieldLink RX4 18 "FallingWords$Rules" "leftLength" "[I", .fieldLink RX4 9 "FallingWords$Rules" "left" "[I", .static yX4_ruleIn, .code yX4_ruleIn cX4_ruleIn 1 (some .int), .static yX4_placeIn, .code yX4_placeIn cX4_placeIn 1 (some .int)] ++ wsX100 ++ wsX60 ++ wsX40)
def wsX10_ringAnswer : List Cond := .code yX10_ringAnswer cX10_ringAnswer 2 (some .int) :: ([.fieldLink RX10 29 "FallingWords" "reduction" "LFallingWords$Reduction;", .constant RX10 135 (-1000004)] ++ wsX100 ++ wsX30)
def wsX10_reduced_r1 : List Cond := [Cond.constant RX10 71 (-1000001), Cond.fieldLink RX10 29 "FallingWords" "reduction" "LFallingWords$Reduction;", Cond.fieldLink RX10 10 "FallingWords" "now" "LFallingWords$State;", Cond.constant RX10 135 (-1000004), Cond.methodLink RX10 92 yX10_isLetterOf, Cond.static yX10_isLetterOf, Cond.initialized RX10, Cond.code yX10_isLetterOf cX10_isLetterOf 3 (some .boolean), Cond.instanceMethod yX3_run, Cond.initialized RX3, Cond.selects RX3 yX3_run yX3_run, Cond.code yX3_run cX3_run 5 none, Cond.fieldLink RX3 9 "FallingWords$Reduction" "words" "[I", Cond.fieldLink RX3 18 "FallingWords$Reduction" "steps" "I", Cond.fieldLink RX3 26 "FallingWords$Reduction" "ringStart" "I", Cond.fieldLink RX3 29 "FallingWords$Reduction" "outcome" "I", Cond.fieldLink RX3 15 "FallingWords$Reduction" "rulesUsed" "[I", Cond.methodLink RX3 22 yX3_firstTimeOf, Cond.instanceMethod yX3_firstTimeOf, Cond.selects RX3 yX3_firstTimeOf yX3_firstTimeOf, Cond.code yX3_firstTimeOf cX3_firstTimeOf 3 (some .int), Cond.instanceMethod yX4_choiceFor, Cond.initialized RX4, Cond.selects RX4 yX4_choiceFor yX4_choiceFor]
def wsX10_reduced_r2 : List Cond := [Cond.code yX4_choiceFor cX4_choiceFor 12 (some .int), Cond.fieldLink RX4 33 "FallingWords$Rules" "size" "I", Cond.static yX9_lengthOf, Cond.initialized RX9, Cond.code yX9_lengthOf cX9_lengthOf 3 (some .int), Cond.methodLink RX4 51 yX4_appliesAt, Cond.instanceMethod yX4_appliesAt, Cond.selects RX4 yX4_appliesAt yX4_appliesAt, Cond.code yX4_appliesAt cX4_appliesAt 8 (some .boolean), Cond.fieldLink RX4 18 "FallingWords$Rules" "leftLength" "[I", Cond.fieldLink RX4 9 "FallingWords$Rules" "left" "[I", Cond.static yX4_ruleIn, Cond.code yX4_ruleIn cX4_ruleIn 1 (some .int), Cond.static yX4_placeIn, Cond.code yX4_placeIn cX4_placeIn 1 (some .int), Cond.instanceMethod yX4_applied, Cond.selects RX4 yX4_applied yX4_applied, Cond.code yX4_applied cX4_applied 9 (some .int), Cond.fieldLink RX4 15 "FallingWords$Rules" "right" "[I", Cond.fieldLink RX4 21 "FallingWords$Rules" "rightLength" "[I", Cond.static yX9_lastBits, Cond.code yX9_lastBits cX9_lastBits 2 (some .int), Cond.methodLink RX10 153 yX10_ringAnswer, Cond.instanceMethod yX10_ringAnswer]
def wsX10_reduced_r3 : List Cond := [Cond.selects RX10 yX10_ringAnswer yX10_ringAnswer, Cond.code yX10_ringAnswer cX10_ringAnswer 2 (some .int), Cond.instanceMethod yX3_last, Cond.selects RX3 yX3_last yX3_last, Cond.code yX3_last cX3_last 1 (some .int), Cond.static yX9_letterOf, Cond.code yX9_letterOf cX9_letterOf 3 (some .int), Cond.constant RX9 15 (-1000004), Cond.methodLink RX9 9 yX9_lengthOf]
def wsX10_reduced : List Cond := .code yX10_reduced cX10_reduced 3 (some .int) :: ((wsX10_reduced_r1 ++ (wsX10_reduced_r2 ++ wsX10_reduced_r3)) ++ wsX100 ++ wsX60 ++ wsX30 ++ wsX40)
def wsX10_reached_r1 : List Cond := [Cond.constant RX10 71 (-1000001), Cond.fieldLink RX10 36 "FallingWords" "reach" "LFallingWords$Reach;", Cond.fieldLink RX10 10 "FallingWords" "now" "LFallingWords$State;", Cond.constant RX10 172 (-1000003), Cond.constant RX10 135 (-1000004), Cond.methodLink RX10 92 yX10_isLetterOf, Cond.static yX10_isLetterOf, Cond.initialized RX10, Cond.code yX10_isLetterOf cX10_isLetterOf 3 (some .boolean), Cond.instanceMethod yX2_run, Cond.initialized RX2, Cond.selects RX2 yX2_run yX2_run, Cond.code yX2_run cX2_run 4 none, Cond.fieldLink RX2 15 "FallingWords$Reach" "seats" "[I", Cond.fieldLink RX2 24 "FallingWords$Reach" "size" "I", Cond.fieldLink RX2 28 "FallingWords$Reach" "tooMany" "Z", Cond.fieldLink RX2 32 "FallingWords$Reach" "ends" "I", Cond.fieldLink RX2 9 "FallingWords$Reach" "words" "[I", Cond.methodLink RX2 18 yJ7_fill_53178, Cond.static yJ7_fill_53178, Cond.initialized RJ7, Cond.code yJ7_fill_53178 cJ7_fill_53178 4 none, Cond.methodLink RX2 35 yX2_add, Cond.instanceMethod yX2_add]
def wsX10_reached_r2 : List Cond := [Cond.selects RX2 yX2_add yX2_add, Cond.code yX2_add cX2_add 4 none, Cond.constant RX2 78 (-1640531535), Cond.methodLink RX2 39 yX2_addAllFrom, Cond.instanceMethod yX2_addAllFrom, Cond.selects RX2 yX2_addAllFrom yX2_addAllFrom, Cond.code yX2_addAllFrom cX2_addAllFrom 7 none, Cond.static yX9_lengthOf, Cond.initialized RX9, Cond.code yX9_lengthOf cX9_lengthOf 3 (some .int), Cond.instanceMethod yX4_appliesAt, Cond.initialized RX4, Cond.selects RX4 yX4_appliesAt yX4_appliesAt, Cond.code yX4_appliesAt cX4_appliesAt 8 (some .boolean), Cond.fieldLink RX4 18 "FallingWords$Rules" "leftLength" "[I", Cond.fieldLink RX4 9 "FallingWords$Rules" "left" "[I", Cond.instanceMethod yX4_applied, Cond.selects RX4 yX4_applied yX4_applied, Cond.code yX4_applied cX4_applied 9 (some .int), Cond.fieldLink RX4 15 "FallingWords$Rules" "right" "[I", Cond.fieldLink RX4 21 "FallingWords$Rules" "rightLength" "[I", Cond.static yX9_lastBits, Cond.code yX9_lastBits cX9_lastBits 2 (some .int), Cond.methodLink RX2 60 yX2_addEnd]
def wsX10_reached_r3 : List Cond := [Cond.instanceMethod yX2_addEnd, Cond.selects RX2 yX2_addEnd yX2_addEnd, Cond.code yX2_addEnd cX2_addEnd 2 none, Cond.fieldLink RX2 63 "FallingWords$Reach" "firstEnd" "I", Cond.methodLink RX2 66 Lib.Math.min.name, Cond.static Lib.Math.min.name, Cond.initialized "java/lang/Math", Cond.code Lib.Math.min.name Lib.Math.min.code 2 (some .int), Cond.fieldLink RX2 72 "FallingWords$Reach" "lastEnd" "I", Cond.methodLink RX2 75 Lib.Math.max.name, Cond.static Lib.Math.max.name, Cond.code Lib.Math.max.name Lib.Math.max.code 2 (some .int), Cond.static yX9_letterOf, Cond.code yX9_letterOf cX9_letterOf 3 (some .int), Cond.constant RX9 15 (-1000004), Cond.methodLink RX9 9 yX9_lengthOf]
def wsX10_reached : List Cond := .code yX10_reached cX10_reached 4 (some .int) :: ((wsX10_reached_r1 ++ (wsX10_reached_r2 ++ wsX10_reached_r3)) ++ wsX100 ++ wsX60 ++ wsX20 ++ wsX40)
def wsX10_storeOf : List Cond := .code yX10_storeOf cX10_storeOf 5 (some .int) :: ([.constant RX10 71 (-1000001), .fieldLink RX10 10 "FallingWords" "now" "LFallingWords$State;", .constant RX10 135 (-1000004), .methodLink RX10 92 yX10_isLetterOf, .static yX10_isLetterOf, .initialized RX10, .code yX10_isLetterOf cX10_isLetterOf 3 (some .boolean), .static yX9_letterOf, .initialized RX9, .code yX9_letterOf cX9_letterOf 3 (some .int), .constant RX9 15 (-1000004), .methodLink RX9 9 yX9_lengthOf, .static yX9_lengthOf, .code yX9_lengthOf cX9_lengthOf 3 (some .int)] ++ wsX100 ++ wsX60 ++ wsX70)
def wsX10_overlapOf_r1 : List Cond := [Cond.fieldLink RX10 43 "FallingWords" "overlaps" "LFallingWords$Overlaps;", Cond.fieldLink RX10 10 "FallingWords" "now" "LFallingWords$State;", Cond.constant RX10 71 (-1000001), Cond.fieldLink RX10 29 "FallingWords" "reduction" "LFallingWords$Reduction;", Cond.instanceMethod yX1_find, Cond.initialized RX1, Cond.selects RX1 yX1_find yX1_find, Cond.code yX1_find cX1_find 5 (some .boolean), Cond.methodLink RX1 11 yX1_isOverlap, Cond.instanceMethod yX1_isOverlap, Cond.selects RX1 yX1_isOverlap yX1_isOverlap, Cond.code yX1_isOverlap cX1_isOverlap 7 (some .boolean), Cond.fieldLink RX1 25 "FallingWords$Overlaps" "first" "I", Cond.fieldLink RX1 29 "FallingWords$Overlaps" "second" "I", Cond.fieldLink RX1 32 "FallingWords$Overlaps" "place" "I", Cond.fieldLink RX1 49 "FallingWords$Overlaps" "word" "I", Cond.instanceMethod yX4_contains, Cond.initialized RX4, Cond.selects RX4 yX4_contains yX4_contains, Cond.code yX4_contains cX4_contains 2 (some .boolean), Cond.fieldLink RX4 33 "FallingWords$Rules" "size" "I", Cond.methodLink RX1 45 yX1_coveredWord, Cond.instanceMethod yX1_coveredWord, Cond.selects RX1 yX1_coveredWord yX1_coveredWord]
def wsX10_overlapOf_r2 : List Cond := [Cond.code yX1_coveredWord cX1_coveredWord 4 (some .int), Cond.static yX9_lastBits, Cond.initialized RX9, Cond.code yX9_lastBits cX9_lastBits 2 (some .int), Cond.static yX9_lengthOf, Cond.code yX9_lengthOf cX9_lengthOf 3 (some .int), Cond.instanceMethod yX4_appliesAt, Cond.selects RX4 yX4_appliesAt yX4_appliesAt, Cond.code yX4_appliesAt cX4_appliesAt 8 (some .boolean), Cond.fieldLink RX4 18 "FallingWords$Rules" "leftLength" "[I", Cond.fieldLink RX4 9 "FallingWords$Rules" "left" "[I", Cond.instanceMethod yX1_verdict, Cond.selects RX1 yX1_verdict yX1_verdict, Cond.code yX1_verdict cX1_verdict 3 (some .int), Cond.fieldLink RX1 93 "FallingWords$Overlaps" "firstNormal" "I", Cond.fieldLink RX1 99 "FallingWords$Overlaps" "secondNormal" "I", Cond.methodLink RX1 76 yX1_firstWord, Cond.instanceMethod yX1_firstWord, Cond.selects RX1 yX1_firstWord yX1_firstWord, Cond.code yX1_firstWord cX1_firstWord 2 (some .int), Cond.instanceMethod yX4_applied, Cond.selects RX4 yX4_applied yX4_applied, Cond.code yX4_applied cX4_applied 9 (some .int), Cond.fieldLink RX4 15 "FallingWords$Rules" "right" "[I"]
def wsX10_overlapOf_r3 : List Cond := [Cond.fieldLink RX4 21 "FallingWords$Rules" "rightLength" "[I", Cond.instanceMethod yX3_run, Cond.initialized RX3, Cond.selects RX3 yX3_run yX3_run, Cond.code yX3_run cX3_run 5 none, Cond.fieldLink RX3 9 "FallingWords$Reduction" "words" "[I", Cond.fieldLink RX3 18 "FallingWords$Reduction" "steps" "I", Cond.fieldLink RX3 26 "FallingWords$Reduction" "ringStart" "I", Cond.fieldLink RX3 29 "FallingWords$Reduction" "outcome" "I", Cond.fieldLink RX3 15 "FallingWords$Reduction" "rulesUsed" "[I", Cond.methodLink RX3 22 yX3_firstTimeOf, Cond.instanceMethod yX3_firstTimeOf, Cond.selects RX3 yX3_firstTimeOf yX3_firstTimeOf, Cond.code yX3_firstTimeOf cX3_firstTimeOf 3 (some .int), Cond.instanceMethod yX4_choiceFor, Cond.selects RX4 yX4_choiceFor yX4_choiceFor, Cond.code yX4_choiceFor cX4_choiceFor 12 (some .int), Cond.methodLink RX4 51 yX4_appliesAt, Cond.static yX4_ruleIn, Cond.code yX4_ruleIn cX4_ruleIn 1 (some .int), Cond.static yX4_placeIn, Cond.code yX4_placeIn cX4_placeIn 1 (some .int), Cond.instanceMethod yX3_last, Cond.selects RX3 yX3_last yX3_last]
def wsX10_overlapOf_r4 : List Cond := [Cond.code yX3_last cX3_last 1 (some .int), Cond.methodLink RX1 96 yX1_secondWord, Cond.instanceMethod yX1_secondWord, Cond.selects RX1 yX1_secondWord yX1_secondWord, Cond.code yX1_secondWord cX1_secondWord 2 (some .int)]
def wsX10_overlapOf : List Cond := .code yX10_overlapOf cX10_overlapOf 3 (some .int) :: ((wsX10_overlapOf_r1 ++ (wsX10_overlapOf_r2 ++ (wsX10_overlapOf_r3 ++ wsX10_overlapOf_r4))) ++ wsX100 ++ wsX60 ++ wsX10 ++ wsX40 ++ wsX30)
def wsX10_complete_r1 : List Cond := [Cond.constant RX10 71 (-1000001), Cond.fieldLink RX10 43 "FallingWords" "overlaps" "LFallingWords$Overlaps;", Cond.fieldLink RX10 16 "FallingWords" "trial" "LFallingWords$State;", Cond.fieldLink RX10 29 "FallingWords" "reduction" "LFallingWords$Reduction;", Cond.methodLink RX10 231 Lib.Math.max.name, Cond.static Lib.Math.max.name, Cond.initialized "java/lang/Math", Cond.code Lib.Math.max.name Lib.Math.max.code 2 (some .int), Cond.methodLink RX10 236 Lib.Math.min.name, Cond.static Lib.Math.min.name, Cond.code Lib.Math.min.name Lib.Math.min.code 2 (some .int), Cond.constant RX10 172 (-1000003), Cond.methodLink RX10 72 yX10_startTrial, Cond.instanceMethod yX10_startTrial, Cond.selects RX10 yX10_startTrial yX10_startTrial, Cond.initialized RX10, Cond.code yX10_startTrial cX10_startTrial 1 none, Cond.fieldLink RX10 10 "FallingWords" "now" "LFallingWords$State;", Cond.instanceMethod yX6_takeOver, Cond.initialized RX6, Cond.selects RX6 yX6_takeOver yX6_takeOver, Cond.code yX6_takeOver cX6_takeOver 2 none, Cond.fieldLink RX6 12 "FallingWords$State" "rules" "LFallingWords$Rules;", Cond.fieldLink RX6 21 "FallingWords$State" "store" "LFallingWords$Store;"]
def wsX10_complete_r2 : List Cond := [Cond.fieldLink RX6 27 "FallingWords$State" "word" "I", Cond.fieldLink RX6 31 "FallingWords$State" "choosing" "I", Cond.fieldLink RX6 41 "FallingWords$State" "taken" "I", Cond.fieldLink RX6 44 "FallingWords$State" "steps" "I", Cond.instanceMethod yX4_takeOver, Cond.initialized RX4, Cond.selects RX4 yX4_takeOver yX4_takeOver, Cond.code yX4_takeOver cX4_takeOver 2 none, Cond.fieldLink RX4 9 "FallingWords$Rules" "left" "[I", Cond.methodLink RX4 27 arraycopyName, Cond.native arraycopyName, Cond.static arraycopyName, Cond.initialized "java/lang/System", Cond.fieldLink RX4 15 "FallingWords$Rules" "right" "[I", Cond.fieldLink RX4 18 "FallingWords$Rules" "leftLength" "[I", Cond.fieldLink RX4 21 "FallingWords$Rules" "rightLength" "[I", Cond.fieldLink RX4 24 "FallingWords$Rules" "times" "[I", Cond.fieldLink RX4 33 "FallingWords$Rules" "size" "I", Cond.instanceMethod yX7_takeOver, Cond.initialized RX7, Cond.selects RX7 yX7_takeOver yX7_takeOver, Cond.code yX7_takeOver cX7_takeOver 2 none, Cond.fieldLink RX7 9 "FallingWords$Store" "words" "[I", Cond.methodLink RX7 18 arraycopyName]
def wsX10_complete_r3 : List Cond := [Cond.fieldLink RX7 15 "FallingWords$Store" "normals" "[I", Cond.fieldLink RX7 24 "FallingWords$Store" "size" "I", Cond.instanceMethod yX1_findParting, Cond.initialized RX1, Cond.selects RX1 yX1_findParting yX1_findParting, Cond.code yX1_findParting cX1_findParting 4 (some .boolean), Cond.methodLink RX1 11 yX1_isOverlap, Cond.instanceMethod yX1_isOverlap, Cond.selects RX1 yX1_isOverlap yX1_isOverlap, Cond.code yX1_isOverlap cX1_isOverlap 7 (some .boolean), Cond.fieldLink RX1 25 "FallingWords$Overlaps" "first" "I", Cond.fieldLink RX1 29 "FallingWords$Overlaps" "second" "I", Cond.fieldLink RX1 32 "FallingWords$Overlaps" "place" "I", Cond.fieldLink RX1 49 "FallingWords$Overlaps" "word" "I", Cond.instanceMethod yX4_contains, Cond.selects RX4 yX4_contains yX4_contains, Cond.code yX4_contains cX4_contains 2 (some .boolean), Cond.methodLink RX1 45 yX1_coveredWord, Cond.instanceMethod yX1_coveredWord, Cond.selects RX1 yX1_coveredWord yX1_coveredWord, Cond.code yX1_coveredWord cX1_coveredWord 4 (some .int), Cond.static yX9_lastBits, Cond.initialized RX9, Cond.code yX9_lastBits cX9_lastBits 2 (some .int)]
def wsX10_complete_r4 : List Cond := [Cond.static yX9_lengthOf, Cond.code yX9_lengthOf cX9_lengthOf 3 (some .int), Cond.instanceMethod yX4_appliesAt, Cond.selects RX4 yX4_appliesAt yX4_appliesAt, Cond.code yX4_appliesAt cX4_appliesAt 8 (some .boolean), Cond.methodLink RX1 21 yX1_verdict, Cond.instanceMethod yX1_verdict, Cond.selects RX1 yX1_verdict yX1_verdict, Cond.code yX1_verdict cX1_verdict 3 (some .int), Cond.fieldLink RX1 93 "FallingWords$Overlaps" "firstNormal" "I", Cond.fieldLink RX1 99 "FallingWords$Overlaps" "secondNormal" "I", Cond.methodLink RX1 76 yX1_firstWord, Cond.instanceMethod yX1_firstWord, Cond.selects RX1 yX1_firstWord yX1_firstWord, Cond.code yX1_firstWord cX1_firstWord 2 (some .int), Cond.instanceMethod yX4_applied, Cond.selects RX4 yX4_applied yX4_applied, Cond.code yX4_applied cX4_applied 9 (some .int), Cond.instanceMethod yX3_run, Cond.initialized RX3, Cond.selects RX3 yX3_run yX3_run, Cond.code yX3_run cX3_run 5 none, Cond.fieldLink RX3 9 "FallingWords$Reduction" "words" "[I", Cond.fieldLink RX3 18 "FallingWords$Reduction" "steps" "I"]
def wsX10_complete_r5 : List Cond := [Cond.fieldLink RX3 26 "FallingWords$Reduction" "ringStart" "I", Cond.fieldLink RX3 29 "FallingWords$Reduction" "outcome" "I", Cond.fieldLink RX3 15 "FallingWords$Reduction" "rulesUsed" "[I", Cond.methodLink RX3 22 yX3_firstTimeOf, Cond.instanceMethod yX3_firstTimeOf, Cond.selects RX3 yX3_firstTimeOf yX3_firstTimeOf, Cond.code yX3_firstTimeOf cX3_firstTimeOf 3 (some .int), Cond.instanceMethod yX4_choiceFor, Cond.selects RX4 yX4_choiceFor yX4_choiceFor, Cond.code yX4_choiceFor cX4_choiceFor 12 (some .int), Cond.methodLink RX4 51 yX4_appliesAt, Cond.static yX4_ruleIn, Cond.code yX4_ruleIn cX4_ruleIn 1 (some .int), Cond.static yX4_placeIn, Cond.code yX4_placeIn cX4_placeIn 1 (some .int), Cond.instanceMethod yX3_last, Cond.selects RX3 yX3_last yX3_last, Cond.code yX3_last cX3_last 1 (some .int), Cond.methodLink RX1 96 yX1_secondWord, Cond.instanceMethod yX1_secondWord, Cond.selects RX1 yX1_secondWord yX1_secondWord, Cond.code yX1_secondWord cX1_secondWord 2 (some .int), Cond.instanceMethod yX4_isFull, Cond.selects RX4 yX4_isFull yX4_isFull]
def wsX10_complete_r6 : List Cond := [Cond.code yX4_isFull cX4_isFull 1 (some .boolean), Cond.instanceMethod yX6_addRule, Cond.selects RX6 yX6_addRule yX6_addRule, Cond.code yX6_addRule cX6_addRule 3 none, Cond.instanceMethod yX4_add, Cond.selects RX4 yX4_add yX4_add, Cond.code yX4_add cX4_add 3 none, Cond.methodLink RX4 37 yX4_isFull, Cond.methodLink RX10 79 yX10_keepTrial, Cond.instanceMethod yX10_keepTrial, Cond.selects RX10 yX10_keepTrial yX10_keepTrial, Cond.code yX10_keepTrial cX10_keepTrial 1 none, Cond.fieldLink RX10 22 "FallingWords" "history" "LFallingWords$History;", Cond.instanceMethod yX0_keep, Cond.initialized RX0, Cond.selects RX0 yX0_keep yX0_keep, Cond.code yX0_keep cX0_keep 2 none, Cond.fieldLink RX0 18 "FallingWords$History" "size" "I", Cond.fieldLink RX0 11 "FallingWords$History" "states" "[LFallingWords$State;", Cond.methodLink RX0 22 yX0_forgetOldest, Cond.instanceMethod yX0_forgetOldest, Cond.selects RX0 yX0_forgetOldest yX0_forgetOldest, Cond.code yX0_forgetOldest cX0_forgetOldest 3 none]
def wsX10_complete : List Cond := .code yX10_complete cX10_complete 5 (some .int) :: ((wsX10_complete_r1 ++ (wsX10_complete_r2 ++ (wsX10_complete_r3 ++ (wsX10_complete_r4 ++ (wsX10_complete_r5 ++ wsX10_complete_r6))))) ++ wsX100 ++ wsX10 ++ wsX60 ++ wsX40 ++ wsX70 ++ wsX30 ++ wsX00)
def wsX10_count_r1 : List Cond := [Cond.fieldLink RX10 10 "FallingWords" "now" "LFallingWords$State;", Cond.fieldLink RX10 43 "FallingWords" "overlaps" "LFallingWords$Overlaps;", Cond.fieldLink RX10 29 "FallingWords" "reduction" "LFallingWords$Reduction;", Cond.fieldLink RX10 22 "FallingWords" "history" "LFallingWords$History;", Cond.fieldLink RX10 50 "FallingWords" "text" "LFallingWords$Text;", Cond.constant RX10 71 (-1000001), Cond.static yX9_lengthOf, Cond.initialized RX9, Cond.code yX9_lengthOf cX9_lengthOf 3 (some .int), Cond.instanceMethod yX1_howMany, Cond.initialized RX1, Cond.selects RX1 yX1_howMany yX1_howMany, Cond.code yX1_howMany cX1_howMany 4 (some .int), Cond.methodLink RX1 11 yX1_isOverlap, Cond.instanceMethod yX1_isOverlap, Cond.selects RX1 yX1_isOverlap yX1_isOverlap, Cond.code yX1_isOverlap cX1_isOverlap 7 (some .boolean), Cond.fieldLink RX1 25 "FallingWords$Overlaps" "first" "I", Cond.fieldLink RX1 29 "FallingWords$Overlaps" "second" "I", Cond.fieldLink RX1 32 "FallingWords$Overlaps" "place" "I", Cond.fieldLink RX1 49 "FallingWords$Overlaps" "word" "I", Cond.instanceMethod yX4_contains, Cond.initialized RX4, Cond.selects RX4 yX4_contains yX4_contains]
def wsX10_count_r2 : List Cond := [Cond.code yX4_contains cX4_contains 2 (some .boolean), Cond.fieldLink RX4 33 "FallingWords$Rules" "size" "I", Cond.methodLink RX1 45 yX1_coveredWord, Cond.instanceMethod yX1_coveredWord, Cond.selects RX1 yX1_coveredWord yX1_coveredWord, Cond.code yX1_coveredWord cX1_coveredWord 4 (some .int), Cond.static yX9_lastBits, Cond.code yX9_lastBits cX9_lastBits 2 (some .int), Cond.instanceMethod yX4_appliesAt, Cond.selects RX4 yX4_appliesAt yX4_appliesAt, Cond.code yX4_appliesAt cX4_appliesAt 8 (some .boolean), Cond.fieldLink RX4 18 "FallingWords$Rules" "leftLength" "[I", Cond.fieldLink RX4 9 "FallingWords$Rules" "left" "[I", Cond.instanceMethod yX1_howManyAre, Cond.selects RX1 yX1_howManyAre yX1_howManyAre, Cond.code yX1_howManyAre cX1_howManyAre 6 (some .int), Cond.methodLink RX1 21 yX1_verdict, Cond.instanceMethod yX1_verdict, Cond.selects RX1 yX1_verdict yX1_verdict, Cond.code yX1_verdict cX1_verdict 3 (some .int), Cond.fieldLink RX1 93 "FallingWords$Overlaps" "firstNormal" "I", Cond.fieldLink RX1 99 "FallingWords$Overlaps" "secondNormal" "I", Cond.methodLink RX1 76 yX1_firstWord, Cond.instanceMethod yX1_firstWord]
def wsX10_count_r3 : List Cond := [Cond.selects RX1 yX1_firstWord yX1_firstWord, Cond.code yX1_firstWord cX1_firstWord 2 (some .int), Cond.instanceMethod yX4_applied, Cond.selects RX4 yX4_applied yX4_applied, Cond.code yX4_applied cX4_applied 9 (some .int), Cond.fieldLink RX4 15 "FallingWords$Rules" "right" "[I", Cond.fieldLink RX4 21 "FallingWords$Rules" "rightLength" "[I", Cond.instanceMethod yX3_run, Cond.initialized RX3, Cond.selects RX3 yX3_run yX3_run, Cond.code yX3_run cX3_run 5 none, Cond.fieldLink RX3 9 "FallingWords$Reduction" "words" "[I", Cond.fieldLink RX3 18 "FallingWords$Reduction" "steps" "I", Cond.fieldLink RX3 26 "FallingWords$Reduction" "ringStart" "I", Cond.fieldLink RX3 29 "FallingWords$Reduction" "outcome" "I", Cond.fieldLink RX3 15 "FallingWords$Reduction" "rulesUsed" "[I", Cond.methodLink RX3 22 yX3_firstTimeOf, Cond.instanceMethod yX3_firstTimeOf, Cond.selects RX3 yX3_firstTimeOf yX3_firstTimeOf, Cond.code yX3_firstTimeOf cX3_firstTimeOf 3 (some .int), Cond.instanceMethod yX4_choiceFor, Cond.selects RX4 yX4_choiceFor yX4_choiceFor, Cond.code yX4_choiceFor cX4_choiceFor 12 (some .int), Cond.methodLink RX4 51 yX4_appliesAt]
def wsX10_count_r4 : List Cond := [Cond.static yX4_ruleIn, Cond.code yX4_ruleIn cX4_ruleIn 1 (some .int), Cond.static yX4_placeIn, Cond.code yX4_placeIn cX4_placeIn 1 (some .int), Cond.instanceMethod yX3_last, Cond.selects RX3 yX3_last yX3_last, Cond.code yX3_last cX3_last 1 (some .int), Cond.methodLink RX1 96 yX1_secondWord, Cond.instanceMethod yX1_secondWord, Cond.selects RX1 yX1_secondWord yX1_secondWord, Cond.code yX1_secondWord cX1_secondWord 2 (some .int)]
def wsX10_count : List Cond := .code yX10_count cX10_count 2 (some .int) :: ((wsX10_count_r1 ++ (wsX10_count_r2 ++ (wsX10_count_r3 ++ wsX10_count_r4))) ++ wsX100 ++ wsX60 ++ wsX40 ++ wsX70 ++ wsX00 ++ wsX80 ++ wsX10 ++ wsX30)
def wsX10_undo_r1 : List Cond := [Cond.fieldLink RX10 22 "FallingWords" "history" "LFallingWords$History;", Cond.constant RX10 260 (-1000002), Cond.fieldLink RX10 10 "FallingWords" "now" "LFallingWords$State;", Cond.instanceMethod yX0_restoreTo, Cond.initialized RX0, Cond.selects RX0 yX0_restoreTo yX0_restoreTo, Cond.code yX0_restoreTo cX0_restoreTo 2 none, Cond.fieldLink RX0 18 "FallingWords$History" "size" "I", Cond.fieldLink RX0 11 "FallingWords$History" "states" "[LFallingWords$State;", Cond.instanceMethod yX6_takeOver, Cond.initialized RX6, Cond.selects RX6 yX6_takeOver yX6_takeOver, Cond.code yX6_takeOver cX6_takeOver 2 none, Cond.fieldLink RX6 12 "FallingWords$State" "rules" "LFallingWords$Rules;", Cond.fieldLink RX6 21 "FallingWords$State" "store" "LFallingWords$Store;", Cond.fieldLink RX6 27 "FallingWords$State" "word" "I", Cond.fieldLink RX6 31 "FallingWords$State" "choosing" "I", Cond.fieldLink RX6 41 "FallingWords$State" "taken" "I", Cond.fieldLink RX6 44 "FallingWords$State" "steps" "I", Cond.instanceMethod yX4_takeOver, Cond.initialized RX4, Cond.selects RX4 yX4_takeOver yX4_takeOver, Cond.code yX4_takeOver cX4_takeOver 2 none, Cond.fieldLink RX4 9 "FallingWords$Rules" "left" "[I"]
def wsX10_undo_r2 : List Cond := [Cond.methodLink RX4 27 arraycopyName, Cond.native arraycopyName, Cond.static arraycopyName, Cond.initialized "java/lang/System", Cond.fieldLink RX4 15 "FallingWords$Rules" "right" "[I", Cond.fieldLink RX4 18 "FallingWords$Rules" "leftLength" "[I", Cond.fieldLink RX4 21 "FallingWords$Rules" "rightLength" "[I", Cond.fieldLink RX4 24 "FallingWords$Rules" "times" "[I", Cond.fieldLink RX4 33 "FallingWords$Rules" "size" "I", Cond.instanceMethod yX7_takeOver, Cond.initialized RX7, Cond.selects RX7 yX7_takeOver yX7_takeOver, Cond.code yX7_takeOver cX7_takeOver 2 none, Cond.fieldLink RX7 9 "FallingWords$Store" "words" "[I", Cond.methodLink RX7 18 arraycopyName, Cond.fieldLink RX7 15 "FallingWords$Store" "normals" "[I", Cond.fieldLink RX7 24 "FallingWords$Store" "size" "I"]
def wsX10_undo : List Cond := .code yX10_undo cX10_undo 1 (some .int) :: ((wsX10_undo_r1 ++ wsX10_undo_r2) ++ wsX100 ++ wsX00 ++ wsX60 ++ wsX40 ++ wsX70)
def wsX10_type : List Cond := .code yX10_type cX10_type 2 (some .int) :: ([.constant RX10 71 (-1000001), .fieldLink RX10 50 "FallingWords" "text" "LFallingWords$Text;", .constant RX10 172 (-1000003), .instanceMethod yX8_isFull, .initialized RX8, .selects RX8 yX8_isFull yX8_isFull, .code yX8_isFull cX8_isFull 1 (some .boolean), .fieldLink RX8 15 "FallingWords$Text" "size" "I", .instanceMethod yX8_append, .selects RX8 yX8_append yX8_append, .code yX8_append cX8_append 2 none, .fieldLink RX8 9 "FallingWords$Text" "characters" "[C", .methodLink RX8 19 yX8_isFull] ++ wsX100 ++ wsX80)
def wsX10_clearText : List Cond := .code yX10_clearText cX10_clearText 2 (some .int) :: ([.fieldLink RX10 50 "FallingWords" "text" "LFallingWords$Text;"] ++ wsX100 ++ wsX80)
def wsX10_fault_r1 : List Cond := [Cond.constant RX10 71 (-1000001), Cond.fieldLink RX10 57 "FallingWords" "script" "LFallingWords$Script;", Cond.fieldLink RX10 50 "FallingWords" "text" "LFallingWords$Text;", Cond.fieldLink RX10 16 "FallingWords" "trial" "LFallingWords$State;", Cond.fieldLink RX10 29 "FallingWords" "reduction" "LFallingWords$Reduction;", Cond.constant RX10 135 (-1000004), Cond.methodLink RX10 72 yX10_startTrial, Cond.instanceMethod yX10_startTrial, Cond.selects RX10 yX10_startTrial yX10_startTrial, Cond.initialized RX10, Cond.code yX10_startTrial cX10_startTrial 1 none, Cond.fieldLink RX10 10 "FallingWords" "now" "LFallingWords$State;", Cond.instanceMethod yX6_takeOver, Cond.initialized RX6, Cond.selects RX6 yX6_takeOver yX6_takeOver, Cond.code yX6_takeOver cX6_takeOver 2 none, Cond.fieldLink RX6 12 "FallingWords$State" "rules" "LFallingWords$Rules;", Cond.fieldLink RX6 21 "FallingWords$State" "store" "LFallingWords$Store;", Cond.fieldLink RX6 27 "FallingWords$State" "word" "I", Cond.fieldLink RX6 31 "FallingWords$State" "choosing" "I", Cond.fieldLink RX6 41 "FallingWords$State" "taken" "I", Cond.fieldLink RX6 44 "FallingWords$State" "steps" "I", Cond.instanceMethod yX4_takeOver, Cond.initialized RX4]
def wsX10_fault_r2 : List Cond := [Cond.selects RX4 yX4_takeOver yX4_takeOver, Cond.code yX4_takeOver cX4_takeOver 2 none, Cond.fieldLink RX4 9 "FallingWords$Rules" "left" "[I", Cond.methodLink RX4 27 arraycopyName, Cond.native arraycopyName, Cond.static arraycopyName, Cond.initialized "java/lang/System", Cond.fieldLink RX4 15 "FallingWords$Rules" "right" "[I", Cond.fieldLink RX4 18 "FallingWords$Rules" "leftLength" "[I", Cond.fieldLink RX4 21 "FallingWords$Rules" "rightLength" "[I", Cond.fieldLink RX4 24 "FallingWords$Rules" "times" "[I", Cond.fieldLink RX4 33 "FallingWords$Rules" "size" "I", Cond.instanceMethod yX7_takeOver, Cond.initialized RX7, Cond.selects RX7 yX7_takeOver yX7_takeOver, Cond.code yX7_takeOver cX7_takeOver 2 none, Cond.fieldLink RX7 9 "FallingWords$Store" "words" "[I", Cond.methodLink RX7 18 arraycopyName, Cond.fieldLink RX7 15 "FallingWords$Store" "normals" "[I", Cond.fieldLink RX7 24 "FallingWords$Store" "size" "I", Cond.instanceMethod yX5_run, Cond.initialized RX5, Cond.selects RX5 yX5_run yX5_run, Cond.code yX5_run cX5_run 5 none]
def wsX10_fault_r3 : List Cond := [Cond.fieldLink RX5 9 "FallingWords$Script" "done" "I", Cond.fieldLink RX5 15 "FallingWords$Script" "position" "I", Cond.fieldLink RX5 18 "FallingWords$Script" "reason" "I", Cond.fieldLink RX5 21 "FallingWords$Script" "cause" "I", Cond.instanceMethod yX8_readCommand, Cond.initialized RX8, Cond.selects RX8 yX8_readCommand yX8_readCommand, Cond.code yX8_readCommand cX8_readCommand 2 (some .boolean), Cond.fieldLink RX8 23 "FallingWords$Text" "at" "I", Cond.fieldLink RX8 30 "FallingWords$Text" "kind" "I", Cond.fieldLink RX8 36 "FallingWords$Text" "firstWord" "I", Cond.fieldLink RX8 43 "FallingWords$Text" "secondWord" "I", Cond.methodLink RX8 26 yX8_here, Cond.instanceMethod yX8_here, Cond.selects RX8 yX8_here yX8_here, Cond.code yX8_here cX8_here 1 (some .int), Cond.fieldLink RX8 15 "FallingWords$Text" "size" "I", Cond.fieldLink RX8 9 "FallingWords$Text" "characters" "[C", Cond.methodLink RX8 33 yX8_readWord, Cond.instanceMethod yX8_readWord, Cond.selects RX8 yX8_readWord yX8_readWord, Cond.code yX8_readWord cX8_readWord 3 (some .int), Cond.static yX9_withLetter, Cond.initialized RX9]
def wsX10_fault_r4 : List Cond := [Cond.code yX9_withLetter cX9_withLetter 2 (some .int), Cond.methodLink RX8 39 yX8_passes, Cond.instanceMethod yX8_passes, Cond.selects RX8 yX8_passes yX8_passes, Cond.code yX8_passes cX8_passes 2 (some .boolean), Cond.methodLink RX8 46 yX8_readDigit, Cond.instanceMethod yX8_readDigit, Cond.selects RX8 yX8_readDigit yX8_readDigit, Cond.code yX8_readDigit cX8_readDigit 2 (some .boolean), Cond.fieldLink RX8 49 "FallingWords$Text" "digit" "I", Cond.methodLink RX5 33 yX5_perform, Cond.instanceMethod yX5_perform, Cond.selects RX5 yX5_perform yX5_perform, Cond.code yX5_perform cX5_perform 4 none, Cond.methodLink RX5 53 yX5_addRule, Cond.instanceMethod yX5_addRule, Cond.selects RX5 yX5_addRule yX5_addRule, Cond.code yX5_addRule cX5_addRule 6 none, Cond.static yX9_lengthOf, Cond.code yX9_lengthOf cX9_lengthOf 3 (some .int), Cond.methodLink RX5 40 yX5_failWith, Cond.instanceMethod yX5_failWith, Cond.selects RX5 yX5_failWith yX5_failWith, Cond.code yX5_failWith cX5_failWith 3 none]
def wsX10_fault_r5 : List Cond := [Cond.instanceMethod yX4_hasSides, Cond.selects RX4 yX4_hasSides yX4_hasSides, Cond.code yX4_hasSides cX4_hasSides 4 (some .boolean), Cond.instanceMethod yX4_isFull, Cond.selects RX4 yX4_isFull yX4_isFull, Cond.code yX4_isFull cX4_isFull 1 (some .boolean), Cond.instanceMethod yX6_addRule, Cond.selects RX6 yX6_addRule yX6_addRule, Cond.code yX6_addRule cX6_addRule 3 none, Cond.instanceMethod yX4_add, Cond.selects RX4 yX4_add yX4_add, Cond.code yX4_add cX4_add 3 none, Cond.methodLink RX4 37 yX4_isFull, Cond.methodLink RX5 60 yX5_removeRule, Cond.instanceMethod yX5_removeRule, Cond.selects RX5 yX5_removeRule yX5_removeRule, Cond.code yX5_removeRule cX5_removeRule 3 none, Cond.instanceMethod yX4_contains, Cond.selects RX4 yX4_contains yX4_contains, Cond.code yX4_contains cX4_contains 2 (some .boolean), Cond.instanceMethod yX6_removeRule, Cond.selects RX6 yX6_removeRule yX6_removeRule, Cond.code yX6_removeRule cX6_removeRule 2 none, Cond.instanceMethod yX4_remove]
def wsX10_fault_r6 : List Cond := [Cond.selects RX4 yX4_remove yX4_remove, Cond.code yX4_remove cX4_remove 3 none, Cond.methodLink RX4 47 yX4_contains, Cond.methodLink RX5 64 yX5_setWord, Cond.instanceMethod yX5_setWord, Cond.selects RX5 yX5_setWord yX5_setWord, Cond.code yX5_setWord cX5_setWord 3 none, Cond.instanceMethod yX6_takeStep, Cond.selects RX6 yX6_takeStep yX6_takeStep, Cond.code yX6_takeStep cX6_takeStep 3 (some .int), Cond.constant RX6 62 (-1000002), Cond.instanceMethod yX4_choiceFor, Cond.selects RX4 yX4_choiceFor yX4_choiceFor, Cond.code yX4_choiceFor cX4_choiceFor 12 (some .int), Cond.methodLink RX4 51 yX4_appliesAt, Cond.instanceMethod yX4_appliesAt, Cond.selects RX4 yX4_appliesAt yX4_appliesAt, Cond.code yX4_appliesAt cX4_appliesAt 8 (some .boolean), Cond.static yX4_ruleIn, Cond.code yX4_ruleIn cX4_ruleIn 1 (some .int), Cond.static yX4_placeIn, Cond.code yX4_placeIn cX4_placeIn 1 (some .int), Cond.instanceMethod yX4_applied, Cond.selects RX4 yX4_applied yX4_applied]
def wsX10_fault_r7 : List Cond := [Cond.code yX4_applied cX4_applied 9 (some .int), Cond.static yX9_lastBits, Cond.code yX9_lastBits cX9_lastBits 2 (some .int), Cond.instanceMethod yX6_reduce, Cond.selects RX6 yX6_reduce yX6_reduce, Cond.code yX6_reduce cX6_reduce 3 (some .int), Cond.constant RX6 93 (-1000003), Cond.instanceMethod yX7_indexOf, Cond.selects RX7 yX7_indexOf yX7_indexOf, Cond.code yX7_indexOf cX7_indexOf 3 (some .int), Cond.instanceMethod yX7_use, Cond.selects RX7 yX7_use yX7_use, Cond.code yX7_use cX7_use 3 (some .int), Cond.methodLink RX7 28 yX7_setAhead, Cond.instanceMethod yX7_setAhead, Cond.selects RX7 yX7_setAhead yX7_setAhead, Cond.code yX7_setAhead cX7_setAhead 5 none, Cond.instanceMethod yX3_run, Cond.initialized RX3, Cond.selects RX3 yX3_run yX3_run, Cond.code yX3_run cX3_run 5 none, Cond.fieldLink RX3 9 "FallingWords$Reduction" "words" "[I", Cond.fieldLink RX3 18 "FallingWords$Reduction" "steps" "I", Cond.fieldLink RX3 26 "FallingWords$Reduction" "ringStart" "I"]
def wsX10_fault_r8 : List Cond := [Cond.fieldLink RX3 29 "FallingWords$Reduction" "outcome" "I", Cond.fieldLink RX3 15 "FallingWords$Reduction" "rulesUsed" "[I", Cond.methodLink RX3 22 yX3_firstTimeOf, Cond.instanceMethod yX3_firstTimeOf, Cond.selects RX3 yX3_firstTimeOf yX3_firstTimeOf, Cond.code yX3_firstTimeOf cX3_firstTimeOf 3 (some .int), Cond.instanceMethod yX3_countRules, Cond.selects RX3 yX3_countRules yX3_countRules, Cond.code yX3_countRules cX3_countRules 3 none, Cond.instanceMethod yX3_last, Cond.selects RX3 yX3_last yX3_last, Cond.code yX3_last cX3_last 1 (some .int), Cond.instanceMethod yX7_put, Cond.selects RX7 yX7_put yX7_put, Cond.code yX7_put cX7_put 3 none, Cond.methodLink RX5 77 yX5_setChoosing, Cond.instanceMethod yX5_setChoosing, Cond.selects RX5 yX5_setChoosing yX5_setChoosing, Cond.code yX5_setChoosing cX5_setChoosing 3 none, Cond.instanceMethod yX6_setChoosing, Cond.selects RX6 yX6_setChoosing yX6_setChoosing, Cond.code yX6_setChoosing cX6_setChoosing 2 none]
def wsX10_fault : List Cond := .code yX10_fault cX10_fault 2 (some .int) :: ((wsX10_fault_r1 ++ (wsX10_fault_r2 ++ (wsX10_fault_r3 ++ (wsX10_fault_r4 ++ (wsX10_fault_r5 ++ (wsX10_fault_r6 ++ (wsX10_fault_r7 ++ wsX10_fault_r8))))))) ++ wsX100 ++ wsX50 ++ wsX60 ++ wsX40 ++ wsX70 ++ wsX80 ++ wsX30)
def wsX10_play_r1 : List Cond := [Cond.fieldLink RX10 57 "FallingWords" "script" "LFallingWords$Script;", Cond.fieldLink RX10 50 "FallingWords" "text" "LFallingWords$Text;", Cond.fieldLink RX10 16 "FallingWords" "trial" "LFallingWords$State;", Cond.fieldLink RX10 29 "FallingWords" "reduction" "LFallingWords$Reduction;", Cond.constant RX10 260 (-1000002), Cond.methodLink RX10 72 yX10_startTrial, Cond.instanceMethod yX10_startTrial, Cond.selects RX10 yX10_startTrial yX10_startTrial, Cond.initialized RX10, Cond.code yX10_startTrial cX10_startTrial 1 none, Cond.fieldLink RX10 10 "FallingWords" "now" "LFallingWords$State;", Cond.instanceMethod yX6_takeOver, Cond.initialized RX6, Cond.selects RX6 yX6_takeOver yX6_takeOver, Cond.code yX6_takeOver cX6_takeOver 2 none, Cond.fieldLink RX6 12 "FallingWords$State" "rules" "LFallingWords$Rules;", Cond.fieldLink RX6 21 "FallingWords$State" "store" "LFallingWords$Store;", Cond.fieldLink RX6 27 "FallingWords$State" "word" "I", Cond.fieldLink RX6 31 "FallingWords$State" "choosing" "I", Cond.fieldLink RX6 41 "FallingWords$State" "taken" "I", Cond.fieldLink RX6 44 "FallingWords$State" "steps" "I", Cond.instanceMethod yX4_takeOver, Cond.initialized RX4, Cond.selects RX4 yX4_takeOver yX4_takeOver]
def wsX10_play_r2 : List Cond := [Cond.code yX4_takeOver cX4_takeOver 2 none, Cond.fieldLink RX4 9 "FallingWords$Rules" "left" "[I", Cond.methodLink RX4 27 arraycopyName, Cond.native arraycopyName, Cond.static arraycopyName, Cond.initialized "java/lang/System", Cond.fieldLink RX4 15 "FallingWords$Rules" "right" "[I", Cond.fieldLink RX4 18 "FallingWords$Rules" "leftLength" "[I", Cond.fieldLink RX4 21 "FallingWords$Rules" "rightLength" "[I", Cond.fieldLink RX4 24 "FallingWords$Rules" "times" "[I", Cond.fieldLink RX4 33 "FallingWords$Rules" "size" "I", Cond.instanceMethod yX7_takeOver, Cond.initialized RX7, Cond.selects RX7 yX7_takeOver yX7_takeOver, Cond.code yX7_takeOver cX7_takeOver 2 none, Cond.fieldLink RX7 9 "FallingWords$Store" "words" "[I", Cond.methodLink RX7 18 arraycopyName, Cond.fieldLink RX7 15 "FallingWords$Store" "normals" "[I", Cond.fieldLink RX7 24 "FallingWords$Store" "size" "I", Cond.instanceMethod yX5_run, Cond.initialized RX5, Cond.selects RX5 yX5_run yX5_run, Cond.code yX5_run cX5_run 5 none, Cond.fieldLink RX5 9 "FallingWords$Script" "done" "I"]
def wsX10_play_r3 : List Cond := [Cond.fieldLink RX5 15 "FallingWords$Script" "position" "I", Cond.fieldLink RX5 18 "FallingWords$Script" "reason" "I", Cond.fieldLink RX5 21 "FallingWords$Script" "cause" "I", Cond.instanceMethod yX8_readCommand, Cond.initialized RX8, Cond.selects RX8 yX8_readCommand yX8_readCommand, Cond.code yX8_readCommand cX8_readCommand 2 (some .boolean), Cond.fieldLink RX8 23 "FallingWords$Text" "at" "I", Cond.fieldLink RX8 30 "FallingWords$Text" "kind" "I", Cond.fieldLink RX8 36 "FallingWords$Text" "firstWord" "I", Cond.fieldLink RX8 43 "FallingWords$Text" "secondWord" "I", Cond.methodLink RX8 26 yX8_here, Cond.instanceMethod yX8_here, Cond.selects RX8 yX8_here yX8_here, Cond.code yX8_here cX8_here 1 (some .int), Cond.fieldLink RX8 15 "FallingWords$Text" "size" "I", Cond.fieldLink RX8 9 "FallingWords$Text" "characters" "[C", Cond.methodLink RX8 33 yX8_readWord, Cond.instanceMethod yX8_readWord, Cond.selects RX8 yX8_readWord yX8_readWord, Cond.code yX8_readWord cX8_readWord 3 (some .int), Cond.static yX9_withLetter, Cond.initialized RX9, Cond.code yX9_withLetter cX9_withLetter 2 (some .int)]
def wsX10_play_r4 : List Cond := [Cond.methodLink RX8 39 yX8_passes, Cond.instanceMethod yX8_passes, Cond.selects RX8 yX8_passes yX8_passes, Cond.code yX8_passes cX8_passes 2 (some .boolean), Cond.methodLink RX8 46 yX8_readDigit, Cond.instanceMethod yX8_readDigit, Cond.selects RX8 yX8_readDigit yX8_readDigit, Cond.code yX8_readDigit cX8_readDigit 2 (some .boolean), Cond.fieldLink RX8 49 "FallingWords$Text" "digit" "I", Cond.methodLink RX5 33 yX5_perform, Cond.instanceMethod yX5_perform, Cond.selects RX5 yX5_perform yX5_perform, Cond.code yX5_perform cX5_perform 4 none, Cond.methodLink RX5 53 yX5_addRule, Cond.instanceMethod yX5_addRule, Cond.selects RX5 yX5_addRule yX5_addRule, Cond.code yX5_addRule cX5_addRule 6 none, Cond.static yX9_lengthOf, Cond.code yX9_lengthOf cX9_lengthOf 3 (some .int), Cond.methodLink RX5 40 yX5_failWith, Cond.instanceMethod yX5_failWith, Cond.selects RX5 yX5_failWith yX5_failWith, Cond.code yX5_failWith cX5_failWith 3 none, Cond.instanceMethod yX4_hasSides]
def wsX10_play_r5 : List Cond := [Cond.selects RX4 yX4_hasSides yX4_hasSides, Cond.code yX4_hasSides cX4_hasSides 4 (some .boolean), Cond.instanceMethod yX4_isFull, Cond.selects RX4 yX4_isFull yX4_isFull, Cond.code yX4_isFull cX4_isFull 1 (some .boolean), Cond.instanceMethod yX6_addRule, Cond.selects RX6 yX6_addRule yX6_addRule, Cond.code yX6_addRule cX6_addRule 3 none, Cond.instanceMethod yX4_add, Cond.selects RX4 yX4_add yX4_add, Cond.code yX4_add cX4_add 3 none, Cond.methodLink RX4 37 yX4_isFull, Cond.methodLink RX5 60 yX5_removeRule, Cond.instanceMethod yX5_removeRule, Cond.selects RX5 yX5_removeRule yX5_removeRule, Cond.code yX5_removeRule cX5_removeRule 3 none, Cond.instanceMethod yX4_contains, Cond.selects RX4 yX4_contains yX4_contains, Cond.code yX4_contains cX4_contains 2 (some .boolean), Cond.instanceMethod yX6_removeRule, Cond.selects RX6 yX6_removeRule yX6_removeRule, Cond.code yX6_removeRule cX6_removeRule 2 none, Cond.instanceMethod yX4_remove, Cond.selects RX4 yX4_remove yX4_remove]
def wsX10_play_r6 : List Cond := [Cond.code yX4_remove cX4_remove 3 none, Cond.methodLink RX4 47 yX4_contains, Cond.methodLink RX5 64 yX5_setWord, Cond.instanceMethod yX5_setWord, Cond.selects RX5 yX5_setWord yX5_setWord, Cond.code yX5_setWord cX5_setWord 3 none, Cond.instanceMethod yX6_takeStep, Cond.selects RX6 yX6_takeStep yX6_takeStep, Cond.code yX6_takeStep cX6_takeStep 3 (some .int), Cond.constant RX6 62 (-1000002), Cond.instanceMethod yX4_choiceFor, Cond.selects RX4 yX4_choiceFor yX4_choiceFor, Cond.code yX4_choiceFor cX4_choiceFor 12 (some .int), Cond.methodLink RX4 51 yX4_appliesAt, Cond.instanceMethod yX4_appliesAt, Cond.selects RX4 yX4_appliesAt yX4_appliesAt, Cond.code yX4_appliesAt cX4_appliesAt 8 (some .boolean), Cond.static yX4_ruleIn, Cond.code yX4_ruleIn cX4_ruleIn 1 (some .int), Cond.static yX4_placeIn, Cond.code yX4_placeIn cX4_placeIn 1 (some .int), Cond.instanceMethod yX4_applied, Cond.selects RX4 yX4_applied yX4_applied, Cond.code yX4_applied cX4_applied 9 (some .int)]
def wsX10_play_r7 : List Cond := [Cond.static yX9_lastBits, Cond.code yX9_lastBits cX9_lastBits 2 (some .int), Cond.instanceMethod yX6_reduce, Cond.selects RX6 yX6_reduce yX6_reduce, Cond.code yX6_reduce cX6_reduce 3 (some .int), Cond.constant RX6 93 (-1000003), Cond.instanceMethod yX7_indexOf, Cond.selects RX7 yX7_indexOf yX7_indexOf, Cond.code yX7_indexOf cX7_indexOf 3 (some .int), Cond.instanceMethod yX7_use, Cond.selects RX7 yX7_use yX7_use, Cond.code yX7_use cX7_use 3 (some .int), Cond.methodLink RX7 28 yX7_setAhead, Cond.instanceMethod yX7_setAhead, Cond.selects RX7 yX7_setAhead yX7_setAhead, Cond.code yX7_setAhead cX7_setAhead 5 none, Cond.instanceMethod yX3_run, Cond.initialized RX3, Cond.selects RX3 yX3_run yX3_run, Cond.code yX3_run cX3_run 5 none, Cond.fieldLink RX3 9 "FallingWords$Reduction" "words" "[I", Cond.fieldLink RX3 18 "FallingWords$Reduction" "steps" "I", Cond.fieldLink RX3 26 "FallingWords$Reduction" "ringStart" "I", Cond.fieldLink RX3 29 "FallingWords$Reduction" "outcome" "I"]
def wsX10_play_r8 : List Cond := [Cond.fieldLink RX3 15 "FallingWords$Reduction" "rulesUsed" "[I", Cond.methodLink RX3 22 yX3_firstTimeOf, Cond.instanceMethod yX3_firstTimeOf, Cond.selects RX3 yX3_firstTimeOf yX3_firstTimeOf, Cond.code yX3_firstTimeOf cX3_firstTimeOf 3 (some .int), Cond.instanceMethod yX3_countRules, Cond.selects RX3 yX3_countRules yX3_countRules, Cond.code yX3_countRules cX3_countRules 3 none, Cond.instanceMethod yX3_last, Cond.selects RX3 yX3_last yX3_last, Cond.code yX3_last cX3_last 1 (some .int), Cond.instanceMethod yX7_put, Cond.selects RX7 yX7_put yX7_put, Cond.code yX7_put cX7_put 3 none, Cond.methodLink RX5 77 yX5_setChoosing, Cond.instanceMethod yX5_setChoosing, Cond.selects RX5 yX5_setChoosing yX5_setChoosing, Cond.code yX5_setChoosing cX5_setChoosing 3 none, Cond.instanceMethod yX6_setChoosing, Cond.selects RX6 yX6_setChoosing yX6_setChoosing, Cond.code yX6_setChoosing cX6_setChoosing 2 none, Cond.methodLink RX10 79 yX10_keepTrial, Cond.instanceMethod yX10_keepTrial, Cond.selects RX10 yX10_keepTrial yX10_keepTrial]
def wsX10_play_r9 : List Cond := [Cond.code yX10_keepTrial cX10_keepTrial 1 none, Cond.fieldLink RX10 22 "FallingWords" "history" "LFallingWords$History;", Cond.instanceMethod yX0_keep, Cond.initialized RX0, Cond.selects RX0 yX0_keep yX0_keep, Cond.code yX0_keep cX0_keep 2 none, Cond.fieldLink RX0 18 "FallingWords$History" "size" "I", Cond.fieldLink RX0 11 "FallingWords$History" "states" "[LFallingWords$State;", Cond.methodLink RX0 22 yX0_forgetOldest, Cond.instanceMethod yX0_forgetOldest, Cond.selects RX0 yX0_forgetOldest yX0_forgetOldest, Cond.code yX0_forgetOldest cX0_forgetOldest 3 none]
def wsX10_play : List Cond := .code yX10_play cX10_play 1 (some .int) :: ((wsX10_play_r1 ++ (wsX10_play_r2 ++ (wsX10_play_r3 ++ (wsX10_play_r4 ++ (wsX10_play_r5 ++ (wsX10_play_r6 ++ (wsX10_play_r7 ++ (wsX10_play_r8 ++ wsX10_play_r9)))))))) ++ wsX100 ++ wsX50 ++ wsX60 ++ wsX40 ++ wsX70 ++ wsX80 ++ wsX30 ++ wsX00)
def wsX11_init : List Cond := .code yX11_init cX11_init 1 none :: ([.methodLink RX11 1 objectInit, .instanceMethod objectInit, .code objectInit ⟨#[0xb1]⟩ 1 none, .arrayClass .int, .fieldLink RX11 7 "FallingWordsModel" "s" "[I", .fieldLink RX11 13 "FallingWordsModel" "was" "[I", .fieldLink RX11 16 "FallingWordsModel" "begun" "[I", .fieldLink RX11 19 "FallingWordsModel" "aside" "[I", .arrayClass .char, .fieldLink RX11 22 "FallingWordsModel" "text" "[C", .fieldLink RX11 26 "FallingWordsModel" "row" "[I", .fieldLink RX11 29 "FallingWordsModel" "rowRule" "[I", .fieldLink RX11 32 "FallingWordsModel" "found" "[I"] ++ wsX110)
def wsX11_in : List Cond := .code yX11_in cX11_in 3 (some .boolean) :: ([])
def wsX11_length : List Cond := .code yX11_length cX11_length 3 (some .int) :: ([])
def wsX11_letter : List Cond := .code yX11_letter cX11_letter 2 (some .int) :: ([.methodLink RX11 35 yX11_length, .static yX11_length, .initialized RX11, .code yX11_length cX11_length 3 (some .int)])
def wsX11_letterOf : List Cond := .code yX11_letterOf cX11_letterOf 2 (some .int) :: ([.constant RX11 43 (-1000004), .methodLink RX11 35 yX11_length, .static yX11_length, .initialized RX11, .code yX11_length cX11_length 3 (some .int), .methodLink RX11 39 yX11_letter, .static yX11_letter, .code yX11_letter cX11_letter 2 (some .int)])
def wsX11_left : List Cond := .code yX11_left cX11_left 2 (some .int) :: ([.fieldLink RX11 7 "FallingWordsModel" "s" "[I"] ++ wsX110)
def wsX11_right : List Cond := .code yX11_right cX11_right 2 (some .int) :: ([.fieldLink RX11 7 "FallingWordsModel" "s" "[I"] ++ wsX110)
def wsX11_isRule : List Cond := .code yX11_isRule cX11_isRule 2 (some .boolean) :: ([.fieldLink RX11 7 "FallingWordsModel" "s" "[I", .methodLink RX11 44 yX11_in, .static yX11_in, .initialized RX11, .code yX11_in cX11_in 3 (some .boolean)] ++ wsX110)
def wsX11_stands : List Cond := .code yX11_stands cX11_stands 6 (some .boolean) :: ([.methodLink RX11 35 yX11_length, .static yX11_length, .initialized RX11, .code yX11_length cX11_length 3 (some .int)])
def wsX11_applied : List Cond := .code yX11_applied cX11_applied 7 (some .int) :: ([.methodLink RX11 35 yX11_length, .static yX11_length, .initialized RX11, .code yX11_length cX11_length 3 (some .int), .methodLink RX11 48 yX11_left, .instanceMethod yX11_left, .selects RX11 yX11_left yX11_left, .code yX11_left cX11_left 2 (some .int), .fieldLink RX11 7 "FallingWordsModel" "s" "[I", .methodLink RX11 51 yX11_right, .instanceMethod yX11_right, .selects RX11 yX11_right yX11_right, .code yX11_right cX11_right 2 (some .int)] ++ wsX110)
def wsX11_chooses : List Cond := .code yX11_chooses cX11_chooses 6 (some .boolean) :: ([.fieldLink RX11 54 "FallingWordsModel" "chosenRule" "I", .fieldLink RX11 7 "FallingWordsModel" "s" "[I", .fieldLink RX11 58 "FallingWordsModel" "chosenPlace" "I", .methodLink RX11 35 yX11_length, .static yX11_length, .initialized RX11, .code yX11_length cX11_length 3 (some .int), .methodLink RX11 48 yX11_left, .instanceMethod yX11_left, .selects RX11 yX11_left yX11_left, .code yX11_left cX11_left 2 (some .int), .methodLink RX11 61 yX11_stands, .static yX11_stands, .code yX11_stands cX11_stands 6 (some .boolean)] ++ wsX110)
def wsX11_reduces_r1 : List Cond := [Cond.fieldLink RX11 26 "FallingWordsModel" "row" "[I", Cond.fieldLink RX11 64 "FallingWordsModel" "rowSteps" "I", Cond.fieldLink RX11 54 "FallingWordsModel" "chosenRule" "I", Cond.fieldLink RX11 58 "FallingWordsModel" "chosenPlace" "I", Cond.fieldLink RX11 29 "FallingWordsModel" "rowRule" "[I", Cond.fieldLink RX11 75 "FallingWordsModel" "ringFrom" "I", Cond.methodLink RX11 67 yX11_chooses, Cond.instanceMethod yX11_chooses, Cond.selects RX11 yX11_chooses yX11_chooses, Cond.initialized RX11, Cond.code yX11_chooses cX11_chooses 6 (some .boolean), Cond.fieldLink RX11 7 "FallingWordsModel" "s" "[I", Cond.methodLink RX11 35 yX11_length, Cond.static yX11_length, Cond.code yX11_length cX11_length 3 (some .int), Cond.methodLink RX11 48 yX11_left, Cond.instanceMethod yX11_left, Cond.selects RX11 yX11_left yX11_left, Cond.code yX11_left cX11_left 2 (some .int), Cond.methodLink RX11 61 yX11_stands, Cond.static yX11_stands, Cond.code yX11_stands cX11_stands 6 (some .boolean), Cond.methodLink RX11 71 yX11_applied, Cond.instanceMethod yX11_applied]
def wsX11_reduces_r2 : List Cond := [Cond.selects RX11 yX11_applied yX11_applied, Cond.code yX11_applied cX11_applied 7 (some .int), Cond.methodLink RX11 51 yX11_right, Cond.instanceMethod yX11_right, Cond.selects RX11 yX11_right yX11_right, Cond.code yX11_right cX11_right 2 (some .int)]
def wsX11_reduces : List Cond := .code yX11_reduces cX11_reduces 4 (some .int) :: ((wsX11_reduces_r1 ++ wsX11_reduces_r2) ++ wsX110)
def wsX11_keeps : List Cond := .code yX11_keeps cX11_keeps 2 none :: ([.fieldLink RX11 16 "FallingWordsModel" "begun" "[I", .fieldLink RX11 7 "FallingWordsModel" "s" "[I"] ++ wsX110)
def wsX11_acted : List Cond := .code yX11_acted cX11_acted 3 (some .int) :: ([.constant RX11 78 (-1000001), .fieldLink RX11 79 "FallingWordsModel" "states" "I", .fieldLink RX11 13 "FallingWordsModel" "was" "[I", .fieldLink RX11 16 "FallingWordsModel" "begun" "[I"] ++ wsX110)
def wsX11_drops : List Cond := .code yX11_drops cX11_drops 3 (some .int) :: ([.constant RX11 78 (-1000001), .fieldLink RX11 7 "FallingWordsModel" "s" "[I", .methodLink RX11 82 yX11_isRule, .instanceMethod yX11_isRule, .selects RX11 yX11_isRule yX11_isRule, .initialized RX11, .code yX11_isRule cX11_isRule 2 (some .boolean), .methodLink RX11 44 yX11_in, .static yX11_in, .code yX11_in cX11_in 3 (some .boolean)] ++ wsX110)
def wsX11_drop_r1 : List Cond := [Cond.methodLink RX11 85 yX11_keeps, Cond.instanceMethod yX11_keeps, Cond.selects RX11 yX11_keeps yX11_keeps, Cond.initialized RX11, Cond.code yX11_keeps cX11_keeps 2 none, Cond.fieldLink RX11 16 "FallingWordsModel" "begun" "[I", Cond.fieldLink RX11 7 "FallingWordsModel" "s" "[I", Cond.methodLink RX11 88 yX11_drops, Cond.instanceMethod yX11_drops, Cond.selects RX11 yX11_drops yX11_drops, Cond.code yX11_drops cX11_drops 3 (some .int), Cond.constant RX11 78 (-1000001), Cond.methodLink RX11 82 yX11_isRule, Cond.instanceMethod yX11_isRule, Cond.selects RX11 yX11_isRule yX11_isRule, Cond.code yX11_isRule cX11_isRule 2 (some .boolean), Cond.methodLink RX11 44 yX11_in, Cond.static yX11_in, Cond.code yX11_in cX11_in 3 (some .boolean), Cond.methodLink RX11 91 yX11_acted, Cond.instanceMethod yX11_acted, Cond.selects RX11 yX11_acted yX11_acted, Cond.code yX11_acted cX11_acted 3 (some .int), Cond.fieldLink RX11 79 "FallingWordsModel" "states" "I"]
def wsX11_drop_r2 : List Cond := [Cond.fieldLink RX11 13 "FallingWordsModel" "was" "[I"]
def wsX11_drop : List Cond := .code yX11_drop cX11_drop 2 (some .int) :: ((wsX11_drop_r1 ++ wsX11_drop_r2) ++ wsX110)
def wsX11_goes : List Cond := .code yX11_goes cX11_goes 3 (some .int) :: ([.constant RX11 78 (-1000001), .fieldLink RX11 7 "FallingWordsModel" "s" "[I", .methodLink RX11 44 yX11_in, .static yX11_in, .initialized RX11, .code yX11_in cX11_in 3 (some .boolean)] ++ wsX110)
def wsX11_way : List Cond := .code yX11_way cX11_way 2 (some .int) :: ([.methodLink RX11 85 yX11_keeps, .instanceMethod yX11_keeps, .selects RX11 yX11_keeps yX11_keeps, .initialized RX11, .code yX11_keeps cX11_keeps 2 none, .fieldLink RX11 16 "FallingWordsModel" "begun" "[I", .fieldLink RX11 7 "FallingWordsModel" "s" "[I", .methodLink RX11 94 yX11_goes, .instanceMethod yX11_goes, .selects RX11 yX11_goes yX11_goes, .code yX11_goes cX11_goes 3 (some .int), .constant RX11 78 (-1000001), .methodLink RX11 44 yX11_in, .static yX11_in, .code yX11_in cX11_in 3 (some .boolean), .methodLink RX11 91 yX11_acted, .instanceMethod yX11_acted, .selects RX11 yX11_acted yX11_acted, .code yX11_acted cX11_acted 3 (some .int), .fieldLink RX11 79 "FallingWordsModel" "states" "I", .fieldLink RX11 13 "FallingWordsModel" "was" "[I"] ++ wsX110)
def wsX11_adds : List Cond := .code yX11_adds cX11_adds 4 none :: ([.fieldLink RX11 7 "FallingWordsModel" "s" "[I"] ++ wsX110)
def wsX11_places : List Cond := .code yX11_places cX11_places 4 (some .int) :: ([.fieldLink RX11 7 "FallingWordsModel" "s" "[I", .methodLink RX11 35 yX11_length, .static yX11_length, .initialized RX11, .code yX11_length cX11_length 3 (some .int), .methodLink RX11 48 yX11_left, .instanceMethod yX11_left, .selects RX11 yX11_left yX11_left, .code yX11_left cX11_left 2 (some .int), .methodLink RX11 61 yX11_stands, .static yX11_stands, .code yX11_stands cX11_stands 6 (some .boolean)] ++ wsX110)
def wsX11_ruleOf_r1 : List Cond := [Cond.constant RX11 78 (-1000001), Cond.fieldLink RX11 7 "FallingWordsModel" "s" "[I", Cond.methodLink RX11 82 yX11_isRule, Cond.instanceMethod yX11_isRule, Cond.selects RX11 yX11_isRule yX11_isRule, Cond.initialized RX11, Cond.code yX11_isRule cX11_isRule 2 (some .boolean), Cond.methodLink RX11 44 yX11_in, Cond.static yX11_in, Cond.code yX11_in cX11_in 3 (some .boolean), Cond.methodLink RX11 48 yX11_left, Cond.instanceMethod yX11_left, Cond.selects RX11 yX11_left yX11_left, Cond.code yX11_left cX11_left 2 (some .int), Cond.methodLink RX11 35 yX11_length, Cond.static yX11_length, Cond.code yX11_length cX11_length 3 (some .int), Cond.methodLink RX11 51 yX11_right, Cond.instanceMethod yX11_right, Cond.selects RX11 yX11_right yX11_right, Cond.code yX11_right cX11_right 2 (some .int), Cond.methodLink RX11 97 yX11_places, Cond.instanceMethod yX11_places, Cond.selects RX11 yX11_places yX11_places]
def wsX11_ruleOf_r2 : List Cond := [Cond.code yX11_places cX11_places 4 (some .int), Cond.methodLink RX11 61 yX11_stands, Cond.static yX11_stands, Cond.code yX11_stands cX11_stands 6 (some .boolean), Cond.methodLink RX11 100 yX11_letterOf, Cond.static yX11_letterOf, Cond.code yX11_letterOf cX11_letterOf 2 (some .int), Cond.constant RX11 43 (-1000004), Cond.methodLink RX11 39 yX11_letter, Cond.static yX11_letter, Cond.code yX11_letter cX11_letter 2 (some .int)]
def wsX11_ruleOf : List Cond := .code yX11_ruleOf cX11_ruleOf 3 (some .int) :: ((wsX11_ruleOf_r1 ++ wsX11_ruleOf_r2) ++ wsX110)
def wsX11_steps_r1 : List Cond := [Cond.fieldLink RX11 7 "FallingWordsModel" "s" "[I", Cond.constant RX11 103 (-1000002), Cond.fieldLink RX11 54 "FallingWordsModel" "chosenRule" "I", Cond.fieldLink RX11 58 "FallingWordsModel" "chosenPlace" "I", Cond.methodLink RX11 67 yX11_chooses, Cond.instanceMethod yX11_chooses, Cond.selects RX11 yX11_chooses yX11_chooses, Cond.initialized RX11, Cond.code yX11_chooses cX11_chooses 6 (some .boolean), Cond.methodLink RX11 35 yX11_length, Cond.static yX11_length, Cond.code yX11_length cX11_length 3 (some .int), Cond.methodLink RX11 48 yX11_left, Cond.instanceMethod yX11_left, Cond.selects RX11 yX11_left yX11_left, Cond.code yX11_left cX11_left 2 (some .int), Cond.methodLink RX11 61 yX11_stands, Cond.static yX11_stands, Cond.code yX11_stands cX11_stands 6 (some .boolean), Cond.methodLink RX11 71 yX11_applied, Cond.instanceMethod yX11_applied, Cond.selects RX11 yX11_applied yX11_applied, Cond.code yX11_applied cX11_applied 7 (some .int), Cond.methodLink RX11 51 yX11_right]
def wsX11_steps_r2 : List Cond := [Cond.instanceMethod yX11_right, Cond.selects RX11 yX11_right yX11_right, Cond.code yX11_right cX11_right 2 (some .int)]
def wsX11_steps : List Cond := .code yX11_steps cX11_steps 1 (some .int) :: ((wsX11_steps_r1 ++ wsX11_steps_r2) ++ wsX110)
def wsX11_step_r1 : List Cond := [Cond.methodLink RX11 85 yX11_keeps, Cond.instanceMethod yX11_keeps, Cond.selects RX11 yX11_keeps yX11_keeps, Cond.initialized RX11, Cond.code yX11_keeps cX11_keeps 2 none, Cond.fieldLink RX11 16 "FallingWordsModel" "begun" "[I", Cond.fieldLink RX11 7 "FallingWordsModel" "s" "[I", Cond.methodLink RX11 104 yX11_steps, Cond.instanceMethod yX11_steps, Cond.selects RX11 yX11_steps yX11_steps, Cond.code yX11_steps cX11_steps 1 (some .int), Cond.constant RX11 103 (-1000002), Cond.fieldLink RX11 54 "FallingWordsModel" "chosenRule" "I", Cond.fieldLink RX11 58 "FallingWordsModel" "chosenPlace" "I", Cond.methodLink RX11 67 yX11_chooses, Cond.instanceMethod yX11_chooses, Cond.selects RX11 yX11_chooses yX11_chooses, Cond.code yX11_chooses cX11_chooses 6 (some .boolean), Cond.methodLink RX11 35 yX11_length, Cond.static yX11_length, Cond.code yX11_length cX11_length 3 (some .int), Cond.methodLink RX11 48 yX11_left, Cond.instanceMethod yX11_left, Cond.selects RX11 yX11_left yX11_left]
def wsX11_step_r2 : List Cond := [Cond.code yX11_left cX11_left 2 (some .int), Cond.methodLink RX11 61 yX11_stands, Cond.static yX11_stands, Cond.code yX11_stands cX11_stands 6 (some .boolean), Cond.methodLink RX11 71 yX11_applied, Cond.instanceMethod yX11_applied, Cond.selects RX11 yX11_applied yX11_applied, Cond.code yX11_applied cX11_applied 7 (some .int), Cond.methodLink RX11 51 yX11_right, Cond.instanceMethod yX11_right, Cond.selects RX11 yX11_right yX11_right, Cond.code yX11_right cX11_right 2 (some .int), Cond.methodLink RX11 91 yX11_acted, Cond.instanceMethod yX11_acted, Cond.selects RX11 yX11_acted yX11_acted, Cond.code yX11_acted cX11_acted 3 (some .int), Cond.constant RX11 78 (-1000001), Cond.fieldLink RX11 79 "FallingWordsModel" "states" "I", Cond.fieldLink RX11 13 "FallingWordsModel" "was" "[I"]
def wsX11_step : List Cond := .code yX11_step cX11_step 1 (some .int) :: ((wsX11_step_r1 ++ wsX11_step_r2) ++ wsX110)
def wsX11_comesFirst : List Cond := .code yX11_comesFirst cX11_comesFirst 5 none :: ([.fieldLink RX11 7 "FallingWordsModel" "s" "[I"] ++ wsX110)
def wsX11_normals_r1 : List Cond := [Cond.fieldLink RX11 7 "FallingWordsModel" "s" "[I", Cond.constant RX11 103 (-1000002), Cond.constant RX11 115 (-1000003), Cond.fieldLink RX11 64 "FallingWordsModel" "rowSteps" "I", Cond.fieldLink RX11 29 "FallingWordsModel" "rowRule" "[I", Cond.fieldLink RX11 26 "FallingWordsModel" "row" "[I", Cond.methodLink RX11 108 yX11_comesFirst, Cond.instanceMethod yX11_comesFirst, Cond.selects RX11 yX11_comesFirst yX11_comesFirst, Cond.initialized RX11, Cond.code yX11_comesFirst cX11_comesFirst 5 none, Cond.methodLink RX11 112 yX11_reduces, Cond.instanceMethod yX11_reduces, Cond.selects RX11 yX11_reduces yX11_reduces, Cond.code yX11_reduces cX11_reduces 4 (some .int), Cond.fieldLink RX11 54 "FallingWordsModel" "chosenRule" "I", Cond.fieldLink RX11 58 "FallingWordsModel" "chosenPlace" "I", Cond.fieldLink RX11 75 "FallingWordsModel" "ringFrom" "I", Cond.methodLink RX11 67 yX11_chooses, Cond.instanceMethod yX11_chooses, Cond.selects RX11 yX11_chooses yX11_chooses, Cond.code yX11_chooses cX11_chooses 6 (some .boolean), Cond.methodLink RX11 35 yX11_length, Cond.static yX11_length]
def wsX11_normals_r2 : List Cond := [Cond.code yX11_length cX11_length 3 (some .int), Cond.methodLink RX11 48 yX11_left, Cond.instanceMethod yX11_left, Cond.selects RX11 yX11_left yX11_left, Cond.code yX11_left cX11_left 2 (some .int), Cond.methodLink RX11 61 yX11_stands, Cond.static yX11_stands, Cond.code yX11_stands cX11_stands 6 (some .boolean), Cond.methodLink RX11 71 yX11_applied, Cond.instanceMethod yX11_applied, Cond.selects RX11 yX11_applied yX11_applied, Cond.code yX11_applied cX11_applied 7 (some .int), Cond.methodLink RX11 51 yX11_right, Cond.instanceMethod yX11_right, Cond.selects RX11 yX11_right yX11_right, Cond.code yX11_right cX11_right 2 (some .int)]
def wsX11_normals : List Cond := .code yX11_normals cX11_normals 4 (some .int) :: ((wsX11_normals_r1 ++ wsX11_normals_r2) ++ wsX110)
def wsX11_normal_r1 : List Cond := [Cond.methodLink RX11 85 yX11_keeps, Cond.instanceMethod yX11_keeps, Cond.selects RX11 yX11_keeps yX11_keeps, Cond.initialized RX11, Cond.code yX11_keeps cX11_keeps 2 none, Cond.fieldLink RX11 16 "FallingWordsModel" "begun" "[I", Cond.fieldLink RX11 7 "FallingWordsModel" "s" "[I", Cond.methodLink RX11 116 yX11_normals, Cond.instanceMethod yX11_normals, Cond.selects RX11 yX11_normals yX11_normals, Cond.code yX11_normals cX11_normals 4 (some .int), Cond.constant RX11 103 (-1000002), Cond.constant RX11 115 (-1000003), Cond.fieldLink RX11 64 "FallingWordsModel" "rowSteps" "I", Cond.fieldLink RX11 29 "FallingWordsModel" "rowRule" "[I", Cond.fieldLink RX11 26 "FallingWordsModel" "row" "[I", Cond.methodLink RX11 108 yX11_comesFirst, Cond.instanceMethod yX11_comesFirst, Cond.selects RX11 yX11_comesFirst yX11_comesFirst, Cond.code yX11_comesFirst cX11_comesFirst 5 none, Cond.methodLink RX11 112 yX11_reduces, Cond.instanceMethod yX11_reduces, Cond.selects RX11 yX11_reduces yX11_reduces, Cond.code yX11_reduces cX11_reduces 4 (some .int)]
def wsX11_normal_r2 : List Cond := [Cond.fieldLink RX11 54 "FallingWordsModel" "chosenRule" "I", Cond.fieldLink RX11 58 "FallingWordsModel" "chosenPlace" "I", Cond.fieldLink RX11 75 "FallingWordsModel" "ringFrom" "I", Cond.methodLink RX11 67 yX11_chooses, Cond.instanceMethod yX11_chooses, Cond.selects RX11 yX11_chooses yX11_chooses, Cond.code yX11_chooses cX11_chooses 6 (some .boolean), Cond.methodLink RX11 35 yX11_length, Cond.static yX11_length, Cond.code yX11_length cX11_length 3 (some .int), Cond.methodLink RX11 48 yX11_left, Cond.instanceMethod yX11_left, Cond.selects RX11 yX11_left yX11_left, Cond.code yX11_left cX11_left 2 (some .int), Cond.methodLink RX11 61 yX11_stands, Cond.static yX11_stands, Cond.code yX11_stands cX11_stands 6 (some .boolean), Cond.methodLink RX11 71 yX11_applied, Cond.instanceMethod yX11_applied, Cond.selects RX11 yX11_applied yX11_applied, Cond.code yX11_applied cX11_applied 7 (some .int), Cond.methodLink RX11 51 yX11_right, Cond.instanceMethod yX11_right, Cond.selects RX11 yX11_right yX11_right]
def wsX11_normal_r3 : List Cond := [Cond.code yX11_right cX11_right 2 (some .int), Cond.methodLink RX11 91 yX11_acted, Cond.instanceMethod yX11_acted, Cond.selects RX11 yX11_acted yX11_acted, Cond.code yX11_acted cX11_acted 3 (some .int), Cond.constant RX11 78 (-1000001), Cond.fieldLink RX11 79 "FallingWordsModel" "states" "I", Cond.fieldLink RX11 13 "FallingWordsModel" "was" "[I"]
def wsX11_normal : List Cond := .code yX11_normal cX11_normal 1 (some .int) :: ((wsX11_normal_r1 ++ (wsX11_normal_r2 ++ wsX11_normal_r3)) ++ wsX110)
def wsX11_letterAt : List Cond := .code yX11_letterAt cX11_letterAt 2 (some .int) :: ([.constant RX11 78 (-1000001), .fieldLink RX11 7 "FallingWordsModel" "s" "[I", .methodLink RX11 100 yX11_letterOf, .static yX11_letterOf, .initialized RX11, .code yX11_letterOf cX11_letterOf 2 (some .int), .constant RX11 43 (-1000004), .methodLink RX11 35 yX11_length, .static yX11_length, .code yX11_length cX11_length 3 (some .int), .methodLink RX11 39 yX11_letter, .static yX11_letter, .code yX11_letter cX11_letter 2 (some .int)] ++ wsX110)
def wsX11_next : List Cond := .code yX11_next cX11_next 2 (some .int) :: ([.constant RX11 78 (-1000001), .fieldLink RX11 7 "FallingWordsModel" "s" "[I", .constant RX11 43 (-1000004), .fieldLink RX11 54 "FallingWordsModel" "chosenRule" "I", .fieldLink RX11 58 "FallingWordsModel" "chosenPlace" "I", .methodLink RX11 44 yX11_in, .static yX11_in, .initialized RX11, .code yX11_in cX11_in 3 (some .boolean), .methodLink RX11 67 yX11_chooses, .instanceMethod yX11_chooses, .selects RX11 yX11_chooses yX11_chooses, .code yX11_chooses cX11_chooses 6 (some .boolean), .methodLink RX11 35 yX11_length, .static yX11_length, .code yX11_length cX11_length 3 (some .int), .methodLink RX11 48 yX11_left, .instanceMethod yX11_left, .selects RX11 yX11_left yX11_left, .code yX11_left cX11_left 2 (some .int), .methodLink RX11 61 yX11_stands, .static yX11_stands, .code yX11_stands cX11_stands 6 (some .boolean)] ++ wsX110)
def wsX11_reduced_r1 : List Cond := [Cond.constant RX11 78 (-1000001), Cond.fieldLink RX11 7 "FallingWordsModel" "s" "[I", Cond.fieldLink RX11 64 "FallingWordsModel" "rowSteps" "I", Cond.fieldLink RX11 75 "FallingWordsModel" "ringFrom" "I", Cond.constant RX11 43 (-1000004), Cond.fieldLink RX11 26 "FallingWordsModel" "row" "[I", Cond.methodLink RX11 44 yX11_in, Cond.static yX11_in, Cond.initialized RX11, Cond.code yX11_in cX11_in 3 (some .boolean), Cond.methodLink RX11 112 yX11_reduces, Cond.instanceMethod yX11_reduces, Cond.selects RX11 yX11_reduces yX11_reduces, Cond.code yX11_reduces cX11_reduces 4 (some .int), Cond.fieldLink RX11 54 "FallingWordsModel" "chosenRule" "I", Cond.fieldLink RX11 58 "FallingWordsModel" "chosenPlace" "I", Cond.fieldLink RX11 29 "FallingWordsModel" "rowRule" "[I", Cond.methodLink RX11 67 yX11_chooses, Cond.instanceMethod yX11_chooses, Cond.selects RX11 yX11_chooses yX11_chooses, Cond.code yX11_chooses cX11_chooses 6 (some .boolean), Cond.methodLink RX11 35 yX11_length, Cond.static yX11_length, Cond.code yX11_length cX11_length 3 (some .int)]
def wsX11_reduced_r2 : List Cond := [Cond.methodLink RX11 48 yX11_left, Cond.instanceMethod yX11_left, Cond.selects RX11 yX11_left yX11_left, Cond.code yX11_left cX11_left 2 (some .int), Cond.methodLink RX11 61 yX11_stands, Cond.static yX11_stands, Cond.code yX11_stands cX11_stands 6 (some .boolean), Cond.methodLink RX11 71 yX11_applied, Cond.instanceMethod yX11_applied, Cond.selects RX11 yX11_applied yX11_applied, Cond.code yX11_applied cX11_applied 7 (some .int), Cond.methodLink RX11 51 yX11_right, Cond.instanceMethod yX11_right, Cond.selects RX11 yX11_right yX11_right, Cond.code yX11_right cX11_right 2 (some .int), Cond.methodLink RX11 100 yX11_letterOf, Cond.static yX11_letterOf, Cond.code yX11_letterOf cX11_letterOf 2 (some .int), Cond.methodLink RX11 39 yX11_letter, Cond.static yX11_letter, Cond.code yX11_letter cX11_letter 2 (some .int)]
def wsX11_reduced : List Cond := .code yX11_reduced cX11_reduced 3 (some .int) :: ((wsX11_reduced_r1 ++ wsX11_reduced_r2) ++ wsX110)
def wsX11_reaches : List Cond := .code yX11_reaches cX11_reaches 4 none :: ([.fieldLink RX11 119 "FallingWordsModel" "many" "I", .fieldLink RX11 32 "FallingWordsModel" "found" "[I"] ++ wsX110)
def wsX11_reachesAll_r1 : List Cond := [Cond.fieldLink RX11 119 "FallingWordsModel" "many" "I", Cond.fieldLink RX11 7 "FallingWordsModel" "s" "[I", Cond.fieldLink RX11 32 "FallingWordsModel" "found" "[I", Cond.methodLink RX11 122 yX11_reaches, Cond.instanceMethod yX11_reaches, Cond.selects RX11 yX11_reaches yX11_reaches, Cond.initialized RX11, Cond.code yX11_reaches cX11_reaches 4 none, Cond.methodLink RX11 35 yX11_length, Cond.static yX11_length, Cond.code yX11_length cX11_length 3 (some .int), Cond.methodLink RX11 48 yX11_left, Cond.instanceMethod yX11_left, Cond.selects RX11 yX11_left yX11_left, Cond.code yX11_left cX11_left 2 (some .int), Cond.methodLink RX11 61 yX11_stands, Cond.static yX11_stands, Cond.code yX11_stands cX11_stands 6 (some .boolean), Cond.methodLink RX11 71 yX11_applied, Cond.instanceMethod yX11_applied, Cond.selects RX11 yX11_applied yX11_applied, Cond.code yX11_applied cX11_applied 7 (some .int), Cond.methodLink RX11 51 yX11_right, Cond.instanceMethod yX11_right]
def wsX11_reachesAll_r2 : List Cond := [Cond.selects RX11 yX11_right yX11_right, Cond.code yX11_right cX11_right 2 (some .int)]
def wsX11_reachesAll : List Cond := .code yX11_reachesAll cX11_reachesAll 4 none :: ((wsX11_reachesAll_r1 ++ wsX11_reachesAll_r2) ++ wsX110)
def wsX11_end : List Cond := .code yX11_end cX11_end 5 (some .int) :: ([.fieldLink RX11 119 "FallingWordsModel" "many" "I", .fieldLink RX11 32 "FallingWordsModel" "found" "[I", .methodLink RX11 67 yX11_chooses, .instanceMethod yX11_chooses, .selects RX11 yX11_chooses yX11_chooses, .initialized RX11, .code yX11_chooses cX11_chooses 6 (some .boolean), .fieldLink RX11 54 "FallingWordsModel" "chosenRule" "I", .fieldLink RX11 7 "FallingWordsModel" "s" "[I", .fieldLink RX11 58 "FallingWordsModel" "chosenPlace" "I", .methodLink RX11 35 yX11_length, .static yX11_length, .code yX11_length cX11_length 3 (some .int), .methodLink RX11 48 yX11_left, .instanceMethod yX11_left, .selects RX11 yX11_left yX11_left, .code yX11_left cX11_left 2 (some .int), .methodLink RX11 61 yX11_stands, .static yX11_stands, .code yX11_stands cX11_stands 6 (some .boolean)] ++ wsX110)
def wsX11_ends : List Cond := .code yX11_ends cX11_ends 3 (some .int) :: ([.fieldLink RX11 119 "FallingWordsModel" "many" "I", .fieldLink RX11 32 "FallingWordsModel" "found" "[I", .methodLink RX11 67 yX11_chooses, .instanceMethod yX11_chooses, .selects RX11 yX11_chooses yX11_chooses, .initialized RX11, .code yX11_chooses cX11_chooses 6 (some .boolean), .fieldLink RX11 54 "FallingWordsModel" "chosenRule" "I", .fieldLink RX11 7 "FallingWordsModel" "s" "[I", .fieldLink RX11 58 "FallingWordsModel" "chosenPlace" "I", .methodLink RX11 35 yX11_length, .static yX11_length, .code yX11_length cX11_length 3 (some .int), .methodLink RX11 48 yX11_left, .instanceMethod yX11_left, .selects RX11 yX11_left yX11_left, .code yX11_left cX11_left 2 (some .int), .methodLink RX11 61 yX11_stands, .static yX11_stands, .code yX11_stands cX11_stands 6 (some .boolean)] ++ wsX110)
def wsX11_reached_r1 : List Cond := [Cond.constant RX11 78 (-1000001), Cond.fieldLink RX11 119 "FallingWordsModel" "many" "I", Cond.constant RX11 115 (-1000003), Cond.constant RX11 43 (-1000004), Cond.methodLink RX11 44 yX11_in, Cond.static yX11_in, Cond.initialized RX11, Cond.code yX11_in cX11_in 3 (some .boolean), Cond.methodLink RX11 126 yX11_reachesAll, Cond.instanceMethod yX11_reachesAll, Cond.selects RX11 yX11_reachesAll yX11_reachesAll, Cond.code yX11_reachesAll cX11_reachesAll 4 none, Cond.fieldLink RX11 7 "FallingWordsModel" "s" "[I", Cond.fieldLink RX11 32 "FallingWordsModel" "found" "[I", Cond.methodLink RX11 122 yX11_reaches, Cond.instanceMethod yX11_reaches, Cond.selects RX11 yX11_reaches yX11_reaches, Cond.code yX11_reaches cX11_reaches 4 none, Cond.methodLink RX11 35 yX11_length, Cond.static yX11_length, Cond.code yX11_length cX11_length 3 (some .int), Cond.methodLink RX11 48 yX11_left, Cond.instanceMethod yX11_left, Cond.selects RX11 yX11_left yX11_left]
def wsX11_reached_r2 : List Cond := [Cond.code yX11_left cX11_left 2 (some .int), Cond.methodLink RX11 61 yX11_stands, Cond.static yX11_stands, Cond.code yX11_stands cX11_stands 6 (some .boolean), Cond.methodLink RX11 71 yX11_applied, Cond.instanceMethod yX11_applied, Cond.selects RX11 yX11_applied yX11_applied, Cond.code yX11_applied cX11_applied 7 (some .int), Cond.methodLink RX11 51 yX11_right, Cond.instanceMethod yX11_right, Cond.selects RX11 yX11_right yX11_right, Cond.code yX11_right cX11_right 2 (some .int), Cond.methodLink RX11 129 yX11_ends, Cond.instanceMethod yX11_ends, Cond.selects RX11 yX11_ends yX11_ends, Cond.code yX11_ends cX11_ends 3 (some .int), Cond.methodLink RX11 67 yX11_chooses, Cond.instanceMethod yX11_chooses, Cond.selects RX11 yX11_chooses yX11_chooses, Cond.code yX11_chooses cX11_chooses 6 (some .boolean), Cond.fieldLink RX11 54 "FallingWordsModel" "chosenRule" "I", Cond.fieldLink RX11 58 "FallingWordsModel" "chosenPlace" "I", Cond.methodLink RX11 132 yX11_end, Cond.instanceMethod yX11_end]
def wsX11_reached_r3 : List Cond := [Cond.selects RX11 yX11_end yX11_end, Cond.code yX11_end cX11_end 5 (some .int), Cond.methodLink RX11 100 yX11_letterOf, Cond.static yX11_letterOf, Cond.code yX11_letterOf cX11_letterOf 2 (some .int), Cond.methodLink RX11 39 yX11_letter, Cond.static yX11_letter, Cond.code yX11_letter cX11_letter 2 (some .int)]
def wsX11_reached : List Cond := .code yX11_reached cX11_reached 3 (some .int) :: ((wsX11_reached_r1 ++ (wsX11_reached_r2 ++ wsX11_reached_r3)) ++ wsX110)
def wsX11_storeOf : List Cond := .code yX11_storeOf cX11_storeOf 4 (some .int) :: ([.constant RX11 78 (-1000001), .fieldLink RX11 7 "FallingWordsModel" "s" "[I", .constant RX11 43 (-1000004), .methodLink RX11 44 yX11_in, .static yX11_in, .initialized RX11, .code yX11_in cX11_in 3 (some .boolean), .methodLink RX11 35 yX11_length, .static yX11_length, .code yX11_length cX11_length 3 (some .int), .methodLink RX11 100 yX11_letterOf, .static yX11_letterOf, .code yX11_letterOf cX11_letterOf 2 (some .int), .methodLink RX11 39 yX11_letter, .static yX11_letter, .code yX11_letter cX11_letter 2 (some .int)] ++ wsX110)
def wsX11_isOverlap : List Cond := .code yX11_isOverlap cX11_isOverlap 10 (some .boolean) :: ([.methodLink RX11 48 yX11_left, .instanceMethod yX11_left, .selects RX11 yX11_left yX11_left, .initialized RX11, .code yX11_left cX11_left 2 (some .int), .fieldLink RX11 7 "FallingWordsModel" "s" "[I", .methodLink RX11 35 yX11_length, .static yX11_length, .code yX11_length cX11_length 3 (some .int), .methodLink RX11 39 yX11_letter, .static yX11_letter, .code yX11_letter cX11_letter 2 (some .int)] ++ wsX110)
def wsX11_lays_r1 : List Cond := [Cond.fieldLink RX11 136 "FallingWordsModel" "oneRule" "I", Cond.fieldLink RX11 139 "FallingWordsModel" "otherRule" "I", Cond.fieldLink RX11 142 "FallingWordsModel" "overlapPlace" "I", Cond.fieldLink RX11 145 "FallingWordsModel" "oneWord" "I", Cond.fieldLink RX11 148 "FallingWordsModel" "otherWord" "I", Cond.methodLink RX11 48 yX11_left, Cond.instanceMethod yX11_left, Cond.selects RX11 yX11_left yX11_left, Cond.initialized RX11, Cond.code yX11_left cX11_left 2 (some .int), Cond.fieldLink RX11 7 "FallingWordsModel" "s" "[I", Cond.methodLink RX11 35 yX11_length, Cond.static yX11_length, Cond.code yX11_length cX11_length 3 (some .int), Cond.methodLink RX11 39 yX11_letter, Cond.static yX11_letter, Cond.code yX11_letter cX11_letter 2 (some .int), Cond.methodLink RX11 71 yX11_applied, Cond.instanceMethod yX11_applied, Cond.selects RX11 yX11_applied yX11_applied, Cond.code yX11_applied cX11_applied 7 (some .int), Cond.methodLink RX11 51 yX11_right, Cond.instanceMethod yX11_right, Cond.selects RX11 yX11_right yX11_right]
def wsX11_lays_r2 : List Cond := [Cond.code yX11_right cX11_right 2 (some .int)]
def wsX11_lays : List Cond := .code yX11_lays cX11_lays 6 none :: ((wsX11_lays_r1 ++ wsX11_lays_r2) ++ wsX110)
def wsX11_parts_r1 : List Cond := [Cond.fieldLink RX11 145 "FallingWordsModel" "oneWord" "I", Cond.fieldLink RX11 26 "FallingWordsModel" "row" "[I", Cond.fieldLink RX11 64 "FallingWordsModel" "rowSteps" "I", Cond.fieldLink RX11 151 "FallingWordsModel" "oneNormal" "I", Cond.fieldLink RX11 148 "FallingWordsModel" "otherWord" "I", Cond.fieldLink RX11 154 "FallingWordsModel" "otherNormal" "I", Cond.methodLink RX11 112 yX11_reduces, Cond.instanceMethod yX11_reduces, Cond.selects RX11 yX11_reduces yX11_reduces, Cond.initialized RX11, Cond.code yX11_reduces cX11_reduces 4 (some .int), Cond.fieldLink RX11 54 "FallingWordsModel" "chosenRule" "I", Cond.fieldLink RX11 58 "FallingWordsModel" "chosenPlace" "I", Cond.fieldLink RX11 29 "FallingWordsModel" "rowRule" "[I", Cond.fieldLink RX11 75 "FallingWordsModel" "ringFrom" "I", Cond.methodLink RX11 67 yX11_chooses, Cond.instanceMethod yX11_chooses, Cond.selects RX11 yX11_chooses yX11_chooses, Cond.code yX11_chooses cX11_chooses 6 (some .boolean), Cond.fieldLink RX11 7 "FallingWordsModel" "s" "[I", Cond.methodLink RX11 35 yX11_length, Cond.static yX11_length, Cond.code yX11_length cX11_length 3 (some .int), Cond.methodLink RX11 48 yX11_left]
def wsX11_parts_r2 : List Cond := [Cond.instanceMethod yX11_left, Cond.selects RX11 yX11_left yX11_left, Cond.code yX11_left cX11_left 2 (some .int), Cond.methodLink RX11 61 yX11_stands, Cond.static yX11_stands, Cond.code yX11_stands cX11_stands 6 (some .boolean), Cond.methodLink RX11 71 yX11_applied, Cond.instanceMethod yX11_applied, Cond.selects RX11 yX11_applied yX11_applied, Cond.code yX11_applied cX11_applied 7 (some .int), Cond.methodLink RX11 51 yX11_right, Cond.instanceMethod yX11_right, Cond.selects RX11 yX11_right yX11_right, Cond.code yX11_right cX11_right 2 (some .int)]
def wsX11_parts : List Cond := .code yX11_parts cX11_parts 3 (some .int) :: ((wsX11_parts_r1 ++ wsX11_parts_r2) ++ wsX110)
def wsX11_finds_r1 : List Cond := [Cond.fieldLink RX11 7 "FallingWordsModel" "s" "[I", Cond.methodLink RX11 157 yX11_isOverlap, Cond.instanceMethod yX11_isOverlap, Cond.selects RX11 yX11_isOverlap yX11_isOverlap, Cond.initialized RX11, Cond.code yX11_isOverlap cX11_isOverlap 10 (some .boolean), Cond.methodLink RX11 48 yX11_left, Cond.instanceMethod yX11_left, Cond.selects RX11 yX11_left yX11_left, Cond.code yX11_left cX11_left 2 (some .int), Cond.methodLink RX11 35 yX11_length, Cond.static yX11_length, Cond.code yX11_length cX11_length 3 (some .int), Cond.methodLink RX11 39 yX11_letter, Cond.static yX11_letter, Cond.code yX11_letter cX11_letter 2 (some .int), Cond.methodLink RX11 160 yX11_lays, Cond.instanceMethod yX11_lays, Cond.selects RX11 yX11_lays yX11_lays, Cond.code yX11_lays cX11_lays 6 none, Cond.fieldLink RX11 136 "FallingWordsModel" "oneRule" "I", Cond.fieldLink RX11 139 "FallingWordsModel" "otherRule" "I", Cond.fieldLink RX11 142 "FallingWordsModel" "overlapPlace" "I", Cond.fieldLink RX11 145 "FallingWordsModel" "oneWord" "I"]
def wsX11_finds_r2 : List Cond := [Cond.fieldLink RX11 148 "FallingWordsModel" "otherWord" "I", Cond.methodLink RX11 71 yX11_applied, Cond.instanceMethod yX11_applied, Cond.selects RX11 yX11_applied yX11_applied, Cond.code yX11_applied cX11_applied 7 (some .int), Cond.methodLink RX11 51 yX11_right, Cond.instanceMethod yX11_right, Cond.selects RX11 yX11_right yX11_right, Cond.code yX11_right cX11_right 2 (some .int), Cond.methodLink RX11 163 yX11_parts, Cond.instanceMethod yX11_parts, Cond.selects RX11 yX11_parts yX11_parts, Cond.code yX11_parts cX11_parts 3 (some .int), Cond.fieldLink RX11 26 "FallingWordsModel" "row" "[I", Cond.fieldLink RX11 64 "FallingWordsModel" "rowSteps" "I", Cond.fieldLink RX11 151 "FallingWordsModel" "oneNormal" "I", Cond.fieldLink RX11 154 "FallingWordsModel" "otherNormal" "I", Cond.methodLink RX11 112 yX11_reduces, Cond.instanceMethod yX11_reduces, Cond.selects RX11 yX11_reduces yX11_reduces, Cond.code yX11_reduces cX11_reduces 4 (some .int), Cond.fieldLink RX11 54 "FallingWordsModel" "chosenRule" "I", Cond.fieldLink RX11 58 "FallingWordsModel" "chosenPlace" "I", Cond.fieldLink RX11 29 "FallingWordsModel" "rowRule" "[I"]
def wsX11_finds_r3 : List Cond := [Cond.fieldLink RX11 75 "FallingWordsModel" "ringFrom" "I", Cond.methodLink RX11 67 yX11_chooses, Cond.instanceMethod yX11_chooses, Cond.selects RX11 yX11_chooses yX11_chooses, Cond.code yX11_chooses cX11_chooses 6 (some .boolean), Cond.methodLink RX11 61 yX11_stands, Cond.static yX11_stands, Cond.code yX11_stands cX11_stands 6 (some .boolean)]
def wsX11_finds : List Cond := .code yX11_finds cX11_finds 7 (some .int) :: ((wsX11_finds_r1 ++ (wsX11_finds_r2 ++ wsX11_finds_r3)) ++ wsX110)
def wsX11_overlapOf_r1 : List Cond := [Cond.constant RX11 78 (-1000001), Cond.fieldLink RX11 136 "FallingWordsModel" "oneRule" "I", Cond.fieldLink RX11 142 "FallingWordsModel" "overlapPlace" "I", Cond.fieldLink RX11 139 "FallingWordsModel" "otherRule" "I", Cond.fieldLink RX11 145 "FallingWordsModel" "oneWord" "I", Cond.fieldLink RX11 148 "FallingWordsModel" "otherWord" "I", Cond.methodLink RX11 44 yX11_in, Cond.static yX11_in, Cond.initialized RX11, Cond.code yX11_in cX11_in 3 (some .boolean), Cond.methodLink RX11 166 yX11_finds, Cond.instanceMethod yX11_finds, Cond.selects RX11 yX11_finds yX11_finds, Cond.code yX11_finds cX11_finds 7 (some .int), Cond.fieldLink RX11 7 "FallingWordsModel" "s" "[I", Cond.methodLink RX11 157 yX11_isOverlap, Cond.instanceMethod yX11_isOverlap, Cond.selects RX11 yX11_isOverlap yX11_isOverlap, Cond.code yX11_isOverlap cX11_isOverlap 10 (some .boolean), Cond.methodLink RX11 48 yX11_left, Cond.instanceMethod yX11_left, Cond.selects RX11 yX11_left yX11_left, Cond.code yX11_left cX11_left 2 (some .int), Cond.methodLink RX11 35 yX11_length]
def wsX11_overlapOf_r2 : List Cond := [Cond.static yX11_length, Cond.code yX11_length cX11_length 3 (some .int), Cond.methodLink RX11 39 yX11_letter, Cond.static yX11_letter, Cond.code yX11_letter cX11_letter 2 (some .int), Cond.methodLink RX11 160 yX11_lays, Cond.instanceMethod yX11_lays, Cond.selects RX11 yX11_lays yX11_lays, Cond.code yX11_lays cX11_lays 6 none, Cond.methodLink RX11 71 yX11_applied, Cond.instanceMethod yX11_applied, Cond.selects RX11 yX11_applied yX11_applied, Cond.code yX11_applied cX11_applied 7 (some .int), Cond.methodLink RX11 51 yX11_right, Cond.instanceMethod yX11_right, Cond.selects RX11 yX11_right yX11_right, Cond.code yX11_right cX11_right 2 (some .int), Cond.methodLink RX11 163 yX11_parts, Cond.instanceMethod yX11_parts, Cond.selects RX11 yX11_parts yX11_parts, Cond.code yX11_parts cX11_parts 3 (some .int), Cond.fieldLink RX11 26 "FallingWordsModel" "row" "[I", Cond.fieldLink RX11 64 "FallingWordsModel" "rowSteps" "I", Cond.fieldLink RX11 151 "FallingWordsModel" "oneNormal" "I"]
def wsX11_overlapOf_r3 : List Cond := [Cond.fieldLink RX11 154 "FallingWordsModel" "otherNormal" "I", Cond.methodLink RX11 112 yX11_reduces, Cond.instanceMethod yX11_reduces, Cond.selects RX11 yX11_reduces yX11_reduces, Cond.code yX11_reduces cX11_reduces 4 (some .int), Cond.fieldLink RX11 54 "FallingWordsModel" "chosenRule" "I", Cond.fieldLink RX11 58 "FallingWordsModel" "chosenPlace" "I", Cond.fieldLink RX11 29 "FallingWordsModel" "rowRule" "[I", Cond.fieldLink RX11 75 "FallingWordsModel" "ringFrom" "I", Cond.methodLink RX11 67 yX11_chooses, Cond.instanceMethod yX11_chooses, Cond.selects RX11 yX11_chooses yX11_chooses, Cond.code yX11_chooses cX11_chooses 6 (some .boolean), Cond.methodLink RX11 61 yX11_stands, Cond.static yX11_stands, Cond.code yX11_stands cX11_stands 6 (some .boolean)]
def wsX11_overlapOf : List Cond := .code yX11_overlapOf cX11_overlapOf 5 (some .int) :: ((wsX11_overlapOf_r1 ++ (wsX11_overlapOf_r2 ++ wsX11_overlapOf_r3)) ++ wsX110)
def wsX11_completes_r1 : List Cond := [Cond.constant RX11 78 (-1000001), Cond.fieldLink RX11 151 "FallingWordsModel" "oneNormal" "I", Cond.fieldLink RX11 154 "FallingWordsModel" "otherNormal" "I", Cond.fieldLink RX11 7 "FallingWordsModel" "s" "[I", Cond.constant RX11 115 (-1000003), Cond.methodLink RX11 44 yX11_in, Cond.static yX11_in, Cond.initialized RX11, Cond.code yX11_in cX11_in 3 (some .boolean), Cond.methodLink RX11 166 yX11_finds, Cond.instanceMethod yX11_finds, Cond.selects RX11 yX11_finds yX11_finds, Cond.code yX11_finds cX11_finds 7 (some .int), Cond.methodLink RX11 157 yX11_isOverlap, Cond.instanceMethod yX11_isOverlap, Cond.selects RX11 yX11_isOverlap yX11_isOverlap, Cond.code yX11_isOverlap cX11_isOverlap 10 (some .boolean), Cond.methodLink RX11 48 yX11_left, Cond.instanceMethod yX11_left, Cond.selects RX11 yX11_left yX11_left, Cond.code yX11_left cX11_left 2 (some .int), Cond.methodLink RX11 35 yX11_length, Cond.static yX11_length, Cond.code yX11_length cX11_length 3 (some .int)]
def wsX11_completes_r2 : List Cond := [Cond.methodLink RX11 39 yX11_letter, Cond.static yX11_letter, Cond.code yX11_letter cX11_letter 2 (some .int), Cond.methodLink RX11 160 yX11_lays, Cond.instanceMethod yX11_lays, Cond.selects RX11 yX11_lays yX11_lays, Cond.code yX11_lays cX11_lays 6 none, Cond.fieldLink RX11 136 "FallingWordsModel" "oneRule" "I", Cond.fieldLink RX11 139 "FallingWordsModel" "otherRule" "I", Cond.fieldLink RX11 142 "FallingWordsModel" "overlapPlace" "I", Cond.fieldLink RX11 145 "FallingWordsModel" "oneWord" "I", Cond.fieldLink RX11 148 "FallingWordsModel" "otherWord" "I", Cond.methodLink RX11 71 yX11_applied, Cond.instanceMethod yX11_applied, Cond.selects RX11 yX11_applied yX11_applied, Cond.code yX11_applied cX11_applied 7 (some .int), Cond.methodLink RX11 51 yX11_right, Cond.instanceMethod yX11_right, Cond.selects RX11 yX11_right yX11_right, Cond.code yX11_right cX11_right 2 (some .int), Cond.methodLink RX11 163 yX11_parts, Cond.instanceMethod yX11_parts, Cond.selects RX11 yX11_parts yX11_parts, Cond.code yX11_parts cX11_parts 3 (some .int)]
def wsX11_completes_r3 : List Cond := [Cond.fieldLink RX11 26 "FallingWordsModel" "row" "[I", Cond.fieldLink RX11 64 "FallingWordsModel" "rowSteps" "I", Cond.methodLink RX11 112 yX11_reduces, Cond.instanceMethod yX11_reduces, Cond.selects RX11 yX11_reduces yX11_reduces, Cond.code yX11_reduces cX11_reduces 4 (some .int), Cond.fieldLink RX11 54 "FallingWordsModel" "chosenRule" "I", Cond.fieldLink RX11 58 "FallingWordsModel" "chosenPlace" "I", Cond.fieldLink RX11 29 "FallingWordsModel" "rowRule" "[I", Cond.fieldLink RX11 75 "FallingWordsModel" "ringFrom" "I", Cond.methodLink RX11 67 yX11_chooses, Cond.instanceMethod yX11_chooses, Cond.selects RX11 yX11_chooses yX11_chooses, Cond.code yX11_chooses cX11_chooses 6 (some .boolean), Cond.methodLink RX11 61 yX11_stands, Cond.static yX11_stands, Cond.code yX11_stands cX11_stands 6 (some .boolean), Cond.methodLink RX11 169 yX11_adds, Cond.instanceMethod yX11_adds, Cond.selects RX11 yX11_adds yX11_adds, Cond.code yX11_adds cX11_adds 4 none]
def wsX11_completes : List Cond := .code yX11_completes cX11_completes 4 (some .int) :: ((wsX11_completes_r1 ++ (wsX11_completes_r2 ++ wsX11_completes_r3)) ++ wsX110)
def wsX11_complete_r1 : List Cond := [Cond.fieldLink RX11 7 "FallingWordsModel" "s" "[I", Cond.fieldLink RX11 16 "FallingWordsModel" "begun" "[I", Cond.methodLink RX11 85 yX11_keeps, Cond.instanceMethod yX11_keeps, Cond.selects RX11 yX11_keeps yX11_keeps, Cond.initialized RX11, Cond.code yX11_keeps cX11_keeps 2 none, Cond.methodLink RX11 173 yX11_completes, Cond.instanceMethod yX11_completes, Cond.selects RX11 yX11_completes yX11_completes, Cond.code yX11_completes cX11_completes 4 (some .int), Cond.constant RX11 78 (-1000001), Cond.fieldLink RX11 151 "FallingWordsModel" "oneNormal" "I", Cond.fieldLink RX11 154 "FallingWordsModel" "otherNormal" "I", Cond.constant RX11 115 (-1000003), Cond.methodLink RX11 44 yX11_in, Cond.static yX11_in, Cond.code yX11_in cX11_in 3 (some .boolean), Cond.methodLink RX11 166 yX11_finds, Cond.instanceMethod yX11_finds, Cond.selects RX11 yX11_finds yX11_finds, Cond.code yX11_finds cX11_finds 7 (some .int), Cond.methodLink RX11 157 yX11_isOverlap, Cond.instanceMethod yX11_isOverlap]
def wsX11_complete_r2 : List Cond := [Cond.selects RX11 yX11_isOverlap yX11_isOverlap, Cond.code yX11_isOverlap cX11_isOverlap 10 (some .boolean), Cond.methodLink RX11 48 yX11_left, Cond.instanceMethod yX11_left, Cond.selects RX11 yX11_left yX11_left, Cond.code yX11_left cX11_left 2 (some .int), Cond.methodLink RX11 35 yX11_length, Cond.static yX11_length, Cond.code yX11_length cX11_length 3 (some .int), Cond.methodLink RX11 39 yX11_letter, Cond.static yX11_letter, Cond.code yX11_letter cX11_letter 2 (some .int), Cond.methodLink RX11 160 yX11_lays, Cond.instanceMethod yX11_lays, Cond.selects RX11 yX11_lays yX11_lays, Cond.code yX11_lays cX11_lays 6 none, Cond.fieldLink RX11 136 "FallingWordsModel" "oneRule" "I", Cond.fieldLink RX11 139 "FallingWordsModel" "otherRule" "I", Cond.fieldLink RX11 142 "FallingWordsModel" "overlapPlace" "I", Cond.fieldLink RX11 145 "FallingWordsModel" "oneWord" "I", Cond.fieldLink RX11 148 "FallingWordsModel" "otherWord" "I", Cond.methodLink RX11 71 yX11_applied, Cond.instanceMethod yX11_applied, Cond.selects RX11 yX11_applied yX11_applied]
def wsX11_complete_r3 : List Cond := [Cond.code yX11_applied cX11_applied 7 (some .int), Cond.methodLink RX11 51 yX11_right, Cond.instanceMethod yX11_right, Cond.selects RX11 yX11_right yX11_right, Cond.code yX11_right cX11_right 2 (some .int), Cond.methodLink RX11 163 yX11_parts, Cond.instanceMethod yX11_parts, Cond.selects RX11 yX11_parts yX11_parts, Cond.code yX11_parts cX11_parts 3 (some .int), Cond.fieldLink RX11 26 "FallingWordsModel" "row" "[I", Cond.fieldLink RX11 64 "FallingWordsModel" "rowSteps" "I", Cond.methodLink RX11 112 yX11_reduces, Cond.instanceMethod yX11_reduces, Cond.selects RX11 yX11_reduces yX11_reduces, Cond.code yX11_reduces cX11_reduces 4 (some .int), Cond.fieldLink RX11 54 "FallingWordsModel" "chosenRule" "I", Cond.fieldLink RX11 58 "FallingWordsModel" "chosenPlace" "I", Cond.fieldLink RX11 29 "FallingWordsModel" "rowRule" "[I", Cond.fieldLink RX11 75 "FallingWordsModel" "ringFrom" "I", Cond.methodLink RX11 67 yX11_chooses, Cond.instanceMethod yX11_chooses, Cond.selects RX11 yX11_chooses yX11_chooses, Cond.code yX11_chooses cX11_chooses 6 (some .boolean), Cond.methodLink RX11 61 yX11_stands]
def wsX11_complete_r4 : List Cond := [Cond.static yX11_stands, Cond.code yX11_stands cX11_stands 6 (some .boolean), Cond.methodLink RX11 169 yX11_adds, Cond.instanceMethod yX11_adds, Cond.selects RX11 yX11_adds yX11_adds, Cond.code yX11_adds cX11_adds 4 none, Cond.methodLink RX11 91 yX11_acted, Cond.instanceMethod yX11_acted, Cond.selects RX11 yX11_acted yX11_acted, Cond.code yX11_acted cX11_acted 3 (some .int), Cond.fieldLink RX11 79 "FallingWordsModel" "states" "I", Cond.fieldLink RX11 13 "FallingWordsModel" "was" "[I"]
def wsX11_complete : List Cond := .code yX11_complete cX11_complete 4 (some .int) :: ((wsX11_complete_r1 ++ (wsX11_complete_r2 ++ (wsX11_complete_r3 ++ wsX11_complete_r4))) ++ wsX110)
def wsX11_count_r1 : List Cond := [Cond.fieldLink RX11 7 "FallingWordsModel" "s" "[I", Cond.fieldLink RX11 79 "FallingWordsModel" "states" "I", Cond.fieldLink RX11 176 "FallingWordsModel" "typed" "I", Cond.constant RX11 78 (-1000001), Cond.methodLink RX11 35 yX11_length, Cond.static yX11_length, Cond.initialized RX11, Cond.code yX11_length cX11_length 3 (some .int), Cond.methodLink RX11 166 yX11_finds, Cond.instanceMethod yX11_finds, Cond.selects RX11 yX11_finds yX11_finds, Cond.code yX11_finds cX11_finds 7 (some .int), Cond.methodLink RX11 157 yX11_isOverlap, Cond.instanceMethod yX11_isOverlap, Cond.selects RX11 yX11_isOverlap yX11_isOverlap, Cond.code yX11_isOverlap cX11_isOverlap 10 (some .boolean), Cond.methodLink RX11 48 yX11_left, Cond.instanceMethod yX11_left, Cond.selects RX11 yX11_left yX11_left, Cond.code yX11_left cX11_left 2 (some .int), Cond.methodLink RX11 39 yX11_letter, Cond.static yX11_letter, Cond.code yX11_letter cX11_letter 2 (some .int), Cond.methodLink RX11 160 yX11_lays]
def wsX11_count_r2 : List Cond := [Cond.instanceMethod yX11_lays, Cond.selects RX11 yX11_lays yX11_lays, Cond.code yX11_lays cX11_lays 6 none, Cond.fieldLink RX11 136 "FallingWordsModel" "oneRule" "I", Cond.fieldLink RX11 139 "FallingWordsModel" "otherRule" "I", Cond.fieldLink RX11 142 "FallingWordsModel" "overlapPlace" "I", Cond.fieldLink RX11 145 "FallingWordsModel" "oneWord" "I", Cond.fieldLink RX11 148 "FallingWordsModel" "otherWord" "I", Cond.methodLink RX11 71 yX11_applied, Cond.instanceMethod yX11_applied, Cond.selects RX11 yX11_applied yX11_applied, Cond.code yX11_applied cX11_applied 7 (some .int), Cond.methodLink RX11 51 yX11_right, Cond.instanceMethod yX11_right, Cond.selects RX11 yX11_right yX11_right, Cond.code yX11_right cX11_right 2 (some .int), Cond.methodLink RX11 163 yX11_parts, Cond.instanceMethod yX11_parts, Cond.selects RX11 yX11_parts yX11_parts, Cond.code yX11_parts cX11_parts 3 (some .int), Cond.fieldLink RX11 26 "FallingWordsModel" "row" "[I", Cond.fieldLink RX11 64 "FallingWordsModel" "rowSteps" "I", Cond.fieldLink RX11 151 "FallingWordsModel" "oneNormal" "I", Cond.fieldLink RX11 154 "FallingWordsModel" "otherNormal" "I"]
def wsX11_count_r3 : List Cond := [Cond.methodLink RX11 112 yX11_reduces, Cond.instanceMethod yX11_reduces, Cond.selects RX11 yX11_reduces yX11_reduces, Cond.code yX11_reduces cX11_reduces 4 (some .int), Cond.fieldLink RX11 54 "FallingWordsModel" "chosenRule" "I", Cond.fieldLink RX11 58 "FallingWordsModel" "chosenPlace" "I", Cond.fieldLink RX11 29 "FallingWordsModel" "rowRule" "[I", Cond.fieldLink RX11 75 "FallingWordsModel" "ringFrom" "I", Cond.methodLink RX11 67 yX11_chooses, Cond.instanceMethod yX11_chooses, Cond.selects RX11 yX11_chooses yX11_chooses, Cond.code yX11_chooses cX11_chooses 6 (some .boolean), Cond.methodLink RX11 61 yX11_stands, Cond.static yX11_stands, Cond.code yX11_stands cX11_stands 6 (some .boolean)]
def wsX11_count : List Cond := .code yX11_count cX11_count 2 (some .int) :: ((wsX11_count_r1 ++ (wsX11_count_r2 ++ wsX11_count_r3)) ++ wsX110)
def wsX11_undo : List Cond := .code yX11_undo cX11_undo 2 (some .int) :: ([.fieldLink RX11 79 "FallingWordsModel" "states" "I", .constant RX11 103 (-1000002), .fieldLink RX11 7 "FallingWordsModel" "s" "[I", .fieldLink RX11 13 "FallingWordsModel" "was" "[I"] ++ wsX110)
def wsX11_type : List Cond := .code yX11_type cX11_type 2 (some .int) :: ([.constant RX11 78 (-1000001), .fieldLink RX11 176 "FallingWordsModel" "typed" "I", .constant RX11 115 (-1000003), .fieldLink RX11 22 "FallingWordsModel" "text" "[C", .methodLink RX11 44 yX11_in, .static yX11_in, .initialized RX11, .code yX11_in cX11_in 3 (some .boolean)] ++ wsX110)
def wsX11_clearText : List Cond := .code yX11_clearText cX11_clearText 2 (some .int) :: ([.fieldLink RX11 176 "FallingWordsModel" "typed" "I"] ++ wsX110)
def wsX11_sign : List Cond := .code yX11_sign cX11_sign 1 (some .int) :: ([.fieldLink RX11 179 "FallingWordsModel" "at" "I", .fieldLink RX11 176 "FallingWordsModel" "typed" "I", .fieldLink RX11 22 "FallingWordsModel" "text" "[C"] ++ wsX110)
def wsX11_takes : List Cond := .code yX11_takes cX11_takes 3 (some .boolean) :: ([.fieldLink RX11 179 "FallingWordsModel" "at" "I", .methodLink RX11 182 yX11_sign, .instanceMethod yX11_sign, .selects RX11 yX11_sign yX11_sign, .initialized RX11, .code yX11_sign cX11_sign 1 (some .int), .fieldLink RX11 176 "FallingWordsModel" "typed" "I", .fieldLink RX11 22 "FallingWordsModel" "text" "[C"] ++ wsX110)
def wsX11_readsWord : List Cond := .code yX11_readsWord cX11_readsWord 1 none :: ([.fieldLink RX11 185 "FallingWordsModel" "read" "I", .fieldLink RX11 188 "FallingWordsModel" "readLength" "I", .fieldLink RX11 179 "FallingWordsModel" "at" "I", .methodLink RX11 182 yX11_sign, .instanceMethod yX11_sign, .selects RX11 yX11_sign yX11_sign, .initialized RX11, .code yX11_sign cX11_sign 1 (some .int), .fieldLink RX11 176 "FallingWordsModel" "typed" "I", .fieldLink RX11 22 "FallingWordsModel" "text" "[C", .methodLink RX11 44 yX11_in, .static yX11_in, .code yX11_in cX11_in 3 (some .boolean)] ++ wsX110)
def wsX11_says : List Cond := .code yX11_says cX11_says 3 (some .int) :: ([.fieldLink RX11 191 "FallingWordsModel" "cause" "I"] ++ wsX110)
def wsX11_readsRule_r1 : List Cond := [Cond.fieldLink RX11 185 "FallingWordsModel" "read" "I", Cond.fieldLink RX11 188 "FallingWordsModel" "readLength" "I", Cond.fieldLink RX11 179 "FallingWordsModel" "at" "I", Cond.constant RX11 43 (-1000004), Cond.fieldLink RX11 7 "FallingWordsModel" "s" "[I", Cond.methodLink RX11 194 yX11_readsWord, Cond.instanceMethod yX11_readsWord, Cond.selects RX11 yX11_readsWord yX11_readsWord, Cond.initialized RX11, Cond.code yX11_readsWord cX11_readsWord 1 none, Cond.methodLink RX11 182 yX11_sign, Cond.instanceMethod yX11_sign, Cond.selects RX11 yX11_sign yX11_sign, Cond.code yX11_sign cX11_sign 1 (some .int), Cond.fieldLink RX11 176 "FallingWordsModel" "typed" "I", Cond.fieldLink RX11 22 "FallingWordsModel" "text" "[C", Cond.methodLink RX11 44 yX11_in, Cond.static yX11_in, Cond.code yX11_in cX11_in 3 (some .boolean), Cond.methodLink RX11 197 yX11_takes, Cond.instanceMethod yX11_takes, Cond.selects RX11 yX11_takes yX11_takes, Cond.code yX11_takes cX11_takes 3 (some .boolean), Cond.methodLink RX11 201 yX11_says]
def wsX11_readsRule_r2 : List Cond := [Cond.instanceMethod yX11_says, Cond.selects RX11 yX11_says yX11_says, Cond.code yX11_says cX11_says 3 (some .int), Cond.fieldLink RX11 191 "FallingWordsModel" "cause" "I", Cond.methodLink RX11 48 yX11_left, Cond.instanceMethod yX11_left, Cond.selects RX11 yX11_left yX11_left, Cond.code yX11_left cX11_left 2 (some .int), Cond.methodLink RX11 51 yX11_right, Cond.instanceMethod yX11_right, Cond.selects RX11 yX11_right yX11_right, Cond.code yX11_right cX11_right 2 (some .int), Cond.methodLink RX11 169 yX11_adds, Cond.instanceMethod yX11_adds, Cond.selects RX11 yX11_adds yX11_adds, Cond.code yX11_adds cX11_adds 4 none]
def wsX11_readsRule : List Cond := .code yX11_readsRule cX11_readsRule 6 (some .int) :: ((wsX11_readsRule_r1 ++ wsX11_readsRule_r2) ++ wsX110)
def wsX11_readsDigit_r1 : List Cond := [Cond.fieldLink RX11 179 "FallingWordsModel" "at" "I", Cond.constant RX11 78 (-1000001), Cond.constant RX11 43 (-1000004), Cond.methodLink RX11 182 yX11_sign, Cond.instanceMethod yX11_sign, Cond.selects RX11 yX11_sign yX11_sign, Cond.initialized RX11, Cond.code yX11_sign cX11_sign 1 (some .int), Cond.fieldLink RX11 176 "FallingWordsModel" "typed" "I", Cond.fieldLink RX11 22 "FallingWordsModel" "text" "[C", Cond.methodLink RX11 44 yX11_in, Cond.static yX11_in, Cond.code yX11_in cX11_in 3 (some .boolean), Cond.methodLink RX11 201 yX11_says, Cond.instanceMethod yX11_says, Cond.selects RX11 yX11_says yX11_says, Cond.code yX11_says cX11_says 3 (some .int), Cond.fieldLink RX11 191 "FallingWordsModel" "cause" "I", Cond.methodLink RX11 197 yX11_takes, Cond.instanceMethod yX11_takes, Cond.selects RX11 yX11_takes yX11_takes, Cond.code yX11_takes cX11_takes 3 (some .boolean), Cond.methodLink RX11 88 yX11_drops, Cond.instanceMethod yX11_drops]
def wsX11_readsDigit_r2 : List Cond := [Cond.selects RX11 yX11_drops yX11_drops, Cond.code yX11_drops cX11_drops 3 (some .int), Cond.fieldLink RX11 7 "FallingWordsModel" "s" "[I", Cond.methodLink RX11 82 yX11_isRule, Cond.instanceMethod yX11_isRule, Cond.selects RX11 yX11_isRule yX11_isRule, Cond.code yX11_isRule cX11_isRule 2 (some .boolean), Cond.methodLink RX11 94 yX11_goes, Cond.instanceMethod yX11_goes, Cond.selects RX11 yX11_goes yX11_goes, Cond.code yX11_goes cX11_goes 3 (some .int)]
def wsX11_readsDigit : List Cond := .code yX11_readsDigit cX11_readsDigit 5 (some .int) :: ((wsX11_readsDigit_r1 ++ wsX11_readsDigit_r2) ++ wsX110)
def wsX11_readsSet_r1 : List Cond := [Cond.fieldLink RX11 179 "FallingWordsModel" "at" "I", Cond.fieldLink RX11 188 "FallingWordsModel" "readLength" "I", Cond.constant RX11 43 (-1000004), Cond.fieldLink RX11 7 "FallingWordsModel" "s" "[I", Cond.fieldLink RX11 185 "FallingWordsModel" "read" "I", Cond.methodLink RX11 194 yX11_readsWord, Cond.instanceMethod yX11_readsWord, Cond.selects RX11 yX11_readsWord yX11_readsWord, Cond.initialized RX11, Cond.code yX11_readsWord cX11_readsWord 1 none, Cond.methodLink RX11 182 yX11_sign, Cond.instanceMethod yX11_sign, Cond.selects RX11 yX11_sign yX11_sign, Cond.code yX11_sign cX11_sign 1 (some .int), Cond.fieldLink RX11 176 "FallingWordsModel" "typed" "I", Cond.fieldLink RX11 22 "FallingWordsModel" "text" "[C", Cond.methodLink RX11 44 yX11_in, Cond.static yX11_in, Cond.code yX11_in cX11_in 3 (some .boolean), Cond.methodLink RX11 197 yX11_takes, Cond.instanceMethod yX11_takes, Cond.selects RX11 yX11_takes yX11_takes, Cond.code yX11_takes cX11_takes 3 (some .boolean), Cond.methodLink RX11 201 yX11_says]
def wsX11_readsSet_r2 : List Cond := [Cond.instanceMethod yX11_says, Cond.selects RX11 yX11_says yX11_says, Cond.code yX11_says cX11_says 3 (some .int), Cond.fieldLink RX11 191 "FallingWordsModel" "cause" "I"]
def wsX11_readsSet : List Cond := .code yX11_readsSet cX11_readsSet 2 (some .int) :: ((wsX11_readsSet_r1 ++ wsX11_readsSet_r2) ++ wsX110)
def wsX11_readsDeed_r1 : List Cond := [Cond.fieldLink RX11 179 "FallingWordsModel" "at" "I", Cond.constant RX11 78 (-1000001), Cond.methodLink RX11 197 yX11_takes, Cond.instanceMethod yX11_takes, Cond.selects RX11 yX11_takes yX11_takes, Cond.initialized RX11, Cond.code yX11_takes cX11_takes 3 (some .boolean), Cond.methodLink RX11 182 yX11_sign, Cond.instanceMethod yX11_sign, Cond.selects RX11 yX11_sign yX11_sign, Cond.code yX11_sign cX11_sign 1 (some .int), Cond.fieldLink RX11 176 "FallingWordsModel" "typed" "I", Cond.fieldLink RX11 22 "FallingWordsModel" "text" "[C", Cond.methodLink RX11 201 yX11_says, Cond.instanceMethod yX11_says, Cond.selects RX11 yX11_says yX11_says, Cond.code yX11_says cX11_says 3 (some .int), Cond.fieldLink RX11 191 "FallingWordsModel" "cause" "I", Cond.methodLink RX11 104 yX11_steps, Cond.instanceMethod yX11_steps, Cond.selects RX11 yX11_steps yX11_steps, Cond.code yX11_steps cX11_steps 1 (some .int), Cond.fieldLink RX11 7 "FallingWordsModel" "s" "[I", Cond.constant RX11 103 (-1000002)]
def wsX11_readsDeed_r2 : List Cond := [Cond.fieldLink RX11 54 "FallingWordsModel" "chosenRule" "I", Cond.fieldLink RX11 58 "FallingWordsModel" "chosenPlace" "I", Cond.methodLink RX11 67 yX11_chooses, Cond.instanceMethod yX11_chooses, Cond.selects RX11 yX11_chooses yX11_chooses, Cond.code yX11_chooses cX11_chooses 6 (some .boolean), Cond.methodLink RX11 35 yX11_length, Cond.static yX11_length, Cond.code yX11_length cX11_length 3 (some .int), Cond.methodLink RX11 48 yX11_left, Cond.instanceMethod yX11_left, Cond.selects RX11 yX11_left yX11_left, Cond.code yX11_left cX11_left 2 (some .int), Cond.methodLink RX11 61 yX11_stands, Cond.static yX11_stands, Cond.code yX11_stands cX11_stands 6 (some .boolean), Cond.methodLink RX11 71 yX11_applied, Cond.instanceMethod yX11_applied, Cond.selects RX11 yX11_applied yX11_applied, Cond.code yX11_applied cX11_applied 7 (some .int), Cond.methodLink RX11 51 yX11_right, Cond.instanceMethod yX11_right, Cond.selects RX11 yX11_right yX11_right, Cond.code yX11_right cX11_right 2 (some .int)]
def wsX11_readsDeed_r3 : List Cond := [Cond.methodLink RX11 116 yX11_normals, Cond.instanceMethod yX11_normals, Cond.selects RX11 yX11_normals yX11_normals, Cond.code yX11_normals cX11_normals 4 (some .int), Cond.constant RX11 115 (-1000003), Cond.fieldLink RX11 64 "FallingWordsModel" "rowSteps" "I", Cond.fieldLink RX11 29 "FallingWordsModel" "rowRule" "[I", Cond.fieldLink RX11 26 "FallingWordsModel" "row" "[I", Cond.methodLink RX11 108 yX11_comesFirst, Cond.instanceMethod yX11_comesFirst, Cond.selects RX11 yX11_comesFirst yX11_comesFirst, Cond.code yX11_comesFirst cX11_comesFirst 5 none, Cond.methodLink RX11 112 yX11_reduces, Cond.instanceMethod yX11_reduces, Cond.selects RX11 yX11_reduces yX11_reduces, Cond.code yX11_reduces cX11_reduces 4 (some .int), Cond.fieldLink RX11 75 "FallingWordsModel" "ringFrom" "I"]
def wsX11_readsDeed : List Cond := .code yX11_readsDeed cX11_readsDeed 4 (some .int) :: ((wsX11_readsDeed_r1 ++ (wsX11_readsDeed_r2 ++ wsX11_readsDeed_r3)) ++ wsX110)
def wsX11_doesNext_r1 : List Cond := [Cond.fieldLink RX11 179 "FallingWordsModel" "at" "I", Cond.methodLink RX11 182 yX11_sign, Cond.instanceMethod yX11_sign, Cond.selects RX11 yX11_sign yX11_sign, Cond.initialized RX11, Cond.code yX11_sign cX11_sign 1 (some .int), Cond.fieldLink RX11 176 "FallingWordsModel" "typed" "I", Cond.fieldLink RX11 22 "FallingWordsModel" "text" "[C", Cond.methodLink RX11 204 yX11_readsRule, Cond.instanceMethod yX11_readsRule, Cond.selects RX11 yX11_readsRule yX11_readsRule, Cond.code yX11_readsRule cX11_readsRule 6 (some .int), Cond.fieldLink RX11 185 "FallingWordsModel" "read" "I", Cond.fieldLink RX11 188 "FallingWordsModel" "readLength" "I", Cond.constant RX11 43 (-1000004), Cond.fieldLink RX11 7 "FallingWordsModel" "s" "[I", Cond.methodLink RX11 194 yX11_readsWord, Cond.instanceMethod yX11_readsWord, Cond.selects RX11 yX11_readsWord yX11_readsWord, Cond.code yX11_readsWord cX11_readsWord 1 none, Cond.methodLink RX11 44 yX11_in, Cond.static yX11_in, Cond.code yX11_in cX11_in 3 (some .boolean), Cond.methodLink RX11 197 yX11_takes]
def wsX11_doesNext_r2 : List Cond := [Cond.instanceMethod yX11_takes, Cond.selects RX11 yX11_takes yX11_takes, Cond.code yX11_takes cX11_takes 3 (some .boolean), Cond.methodLink RX11 201 yX11_says, Cond.instanceMethod yX11_says, Cond.selects RX11 yX11_says yX11_says, Cond.code yX11_says cX11_says 3 (some .int), Cond.fieldLink RX11 191 "FallingWordsModel" "cause" "I", Cond.methodLink RX11 48 yX11_left, Cond.instanceMethod yX11_left, Cond.selects RX11 yX11_left yX11_left, Cond.code yX11_left cX11_left 2 (some .int), Cond.methodLink RX11 51 yX11_right, Cond.instanceMethod yX11_right, Cond.selects RX11 yX11_right yX11_right, Cond.code yX11_right cX11_right 2 (some .int), Cond.methodLink RX11 169 yX11_adds, Cond.instanceMethod yX11_adds, Cond.selects RX11 yX11_adds yX11_adds, Cond.code yX11_adds cX11_adds 4 none, Cond.methodLink RX11 207 yX11_readsDigit, Cond.instanceMethod yX11_readsDigit, Cond.selects RX11 yX11_readsDigit yX11_readsDigit, Cond.code yX11_readsDigit cX11_readsDigit 5 (some .int)]
def wsX11_doesNext_r3 : List Cond := [Cond.constant RX11 78 (-1000001), Cond.methodLink RX11 88 yX11_drops, Cond.instanceMethod yX11_drops, Cond.selects RX11 yX11_drops yX11_drops, Cond.code yX11_drops cX11_drops 3 (some .int), Cond.methodLink RX11 82 yX11_isRule, Cond.instanceMethod yX11_isRule, Cond.selects RX11 yX11_isRule yX11_isRule, Cond.code yX11_isRule cX11_isRule 2 (some .boolean), Cond.methodLink RX11 94 yX11_goes, Cond.instanceMethod yX11_goes, Cond.selects RX11 yX11_goes yX11_goes, Cond.code yX11_goes cX11_goes 3 (some .int), Cond.methodLink RX11 211 yX11_readsSet, Cond.instanceMethod yX11_readsSet, Cond.selects RX11 yX11_readsSet yX11_readsSet, Cond.code yX11_readsSet cX11_readsSet 2 (some .int), Cond.methodLink RX11 214 yX11_readsDeed, Cond.instanceMethod yX11_readsDeed, Cond.selects RX11 yX11_readsDeed yX11_readsDeed, Cond.code yX11_readsDeed cX11_readsDeed 4 (some .int), Cond.methodLink RX11 104 yX11_steps, Cond.instanceMethod yX11_steps, Cond.selects RX11 yX11_steps yX11_steps]
def wsX11_doesNext_r4 : List Cond := [Cond.code yX11_steps cX11_steps 1 (some .int), Cond.constant RX11 103 (-1000002), Cond.fieldLink RX11 54 "FallingWordsModel" "chosenRule" "I", Cond.fieldLink RX11 58 "FallingWordsModel" "chosenPlace" "I", Cond.methodLink RX11 67 yX11_chooses, Cond.instanceMethod yX11_chooses, Cond.selects RX11 yX11_chooses yX11_chooses, Cond.code yX11_chooses cX11_chooses 6 (some .boolean), Cond.methodLink RX11 35 yX11_length, Cond.static yX11_length, Cond.code yX11_length cX11_length 3 (some .int), Cond.methodLink RX11 61 yX11_stands, Cond.static yX11_stands, Cond.code yX11_stands cX11_stands 6 (some .boolean), Cond.methodLink RX11 71 yX11_applied, Cond.instanceMethod yX11_applied, Cond.selects RX11 yX11_applied yX11_applied, Cond.code yX11_applied cX11_applied 7 (some .int), Cond.methodLink RX11 116 yX11_normals, Cond.instanceMethod yX11_normals, Cond.selects RX11 yX11_normals yX11_normals, Cond.code yX11_normals cX11_normals 4 (some .int), Cond.constant RX11 115 (-1000003), Cond.fieldLink RX11 64 "FallingWordsModel" "rowSteps" "I"]
def wsX11_doesNext_r5 : List Cond := [Cond.fieldLink RX11 29 "FallingWordsModel" "rowRule" "[I", Cond.fieldLink RX11 26 "FallingWordsModel" "row" "[I", Cond.methodLink RX11 108 yX11_comesFirst, Cond.instanceMethod yX11_comesFirst, Cond.selects RX11 yX11_comesFirst yX11_comesFirst, Cond.code yX11_comesFirst cX11_comesFirst 5 none, Cond.methodLink RX11 112 yX11_reduces, Cond.instanceMethod yX11_reduces, Cond.selects RX11 yX11_reduces yX11_reduces, Cond.code yX11_reduces cX11_reduces 4 (some .int), Cond.fieldLink RX11 75 "FallingWordsModel" "ringFrom" "I"]
def wsX11_doesNext : List Cond := .code yX11_doesNext cX11_doesNext 3 (some .int) :: ((wsX11_doesNext_r1 ++ (wsX11_doesNext_r2 ++ (wsX11_doesNext_r3 ++ (wsX11_doesNext_r4 ++ wsX11_doesNext_r5)))) ++ wsX110)
def wsX11_faulty_r1 : List Cond := [Cond.fieldLink RX11 19 "FallingWordsModel" "aside" "[I", Cond.fieldLink RX11 7 "FallingWordsModel" "s" "[I", Cond.constant RX11 43 (-1000004), Cond.fieldLink RX11 179 "FallingWordsModel" "at" "I", Cond.fieldLink RX11 176 "FallingWordsModel" "typed" "I", Cond.fieldLink RX11 220 "FallingWordsModel" "reason" "I", Cond.methodLink RX11 217 yX11_doesNext, Cond.instanceMethod yX11_doesNext, Cond.selects RX11 yX11_doesNext yX11_doesNext, Cond.initialized RX11, Cond.code yX11_doesNext cX11_doesNext 3 (some .int), Cond.methodLink RX11 182 yX11_sign, Cond.instanceMethod yX11_sign, Cond.selects RX11 yX11_sign yX11_sign, Cond.code yX11_sign cX11_sign 1 (some .int), Cond.fieldLink RX11 22 "FallingWordsModel" "text" "[C", Cond.methodLink RX11 204 yX11_readsRule, Cond.instanceMethod yX11_readsRule, Cond.selects RX11 yX11_readsRule yX11_readsRule, Cond.code yX11_readsRule cX11_readsRule 6 (some .int), Cond.fieldLink RX11 185 "FallingWordsModel" "read" "I", Cond.fieldLink RX11 188 "FallingWordsModel" "readLength" "I", Cond.methodLink RX11 194 yX11_readsWord, Cond.instanceMethod yX11_readsWord]
def wsX11_faulty_r2 : List Cond := [Cond.selects RX11 yX11_readsWord yX11_readsWord, Cond.code yX11_readsWord cX11_readsWord 1 none, Cond.methodLink RX11 44 yX11_in, Cond.static yX11_in, Cond.code yX11_in cX11_in 3 (some .boolean), Cond.methodLink RX11 197 yX11_takes, Cond.instanceMethod yX11_takes, Cond.selects RX11 yX11_takes yX11_takes, Cond.code yX11_takes cX11_takes 3 (some .boolean), Cond.methodLink RX11 201 yX11_says, Cond.instanceMethod yX11_says, Cond.selects RX11 yX11_says yX11_says, Cond.code yX11_says cX11_says 3 (some .int), Cond.fieldLink RX11 191 "FallingWordsModel" "cause" "I", Cond.methodLink RX11 48 yX11_left, Cond.instanceMethod yX11_left, Cond.selects RX11 yX11_left yX11_left, Cond.code yX11_left cX11_left 2 (some .int), Cond.methodLink RX11 51 yX11_right, Cond.instanceMethod yX11_right, Cond.selects RX11 yX11_right yX11_right, Cond.code yX11_right cX11_right 2 (some .int), Cond.methodLink RX11 169 yX11_adds, Cond.instanceMethod yX11_adds]
def wsX11_faulty_r3 : List Cond := [Cond.selects RX11 yX11_adds yX11_adds, Cond.code yX11_adds cX11_adds 4 none, Cond.methodLink RX11 207 yX11_readsDigit, Cond.instanceMethod yX11_readsDigit, Cond.selects RX11 yX11_readsDigit yX11_readsDigit, Cond.code yX11_readsDigit cX11_readsDigit 5 (some .int), Cond.constant RX11 78 (-1000001), Cond.methodLink RX11 88 yX11_drops, Cond.instanceMethod yX11_drops, Cond.selects RX11 yX11_drops yX11_drops, Cond.code yX11_drops cX11_drops 3 (some .int), Cond.methodLink RX11 82 yX11_isRule, Cond.instanceMethod yX11_isRule, Cond.selects RX11 yX11_isRule yX11_isRule, Cond.code yX11_isRule cX11_isRule 2 (some .boolean), Cond.methodLink RX11 94 yX11_goes, Cond.instanceMethod yX11_goes, Cond.selects RX11 yX11_goes yX11_goes, Cond.code yX11_goes cX11_goes 3 (some .int), Cond.methodLink RX11 211 yX11_readsSet, Cond.instanceMethod yX11_readsSet, Cond.selects RX11 yX11_readsSet yX11_readsSet, Cond.code yX11_readsSet cX11_readsSet 2 (some .int), Cond.methodLink RX11 214 yX11_readsDeed]
def wsX11_faulty_r4 : List Cond := [Cond.instanceMethod yX11_readsDeed, Cond.selects RX11 yX11_readsDeed yX11_readsDeed, Cond.code yX11_readsDeed cX11_readsDeed 4 (some .int), Cond.methodLink RX11 104 yX11_steps, Cond.instanceMethod yX11_steps, Cond.selects RX11 yX11_steps yX11_steps, Cond.code yX11_steps cX11_steps 1 (some .int), Cond.constant RX11 103 (-1000002), Cond.fieldLink RX11 54 "FallingWordsModel" "chosenRule" "I", Cond.fieldLink RX11 58 "FallingWordsModel" "chosenPlace" "I", Cond.methodLink RX11 67 yX11_chooses, Cond.instanceMethod yX11_chooses, Cond.selects RX11 yX11_chooses yX11_chooses, Cond.code yX11_chooses cX11_chooses 6 (some .boolean), Cond.methodLink RX11 35 yX11_length, Cond.static yX11_length, Cond.code yX11_length cX11_length 3 (some .int), Cond.methodLink RX11 61 yX11_stands, Cond.static yX11_stands, Cond.code yX11_stands cX11_stands 6 (some .boolean), Cond.methodLink RX11 71 yX11_applied, Cond.instanceMethod yX11_applied, Cond.selects RX11 yX11_applied yX11_applied, Cond.code yX11_applied cX11_applied 7 (some .int)]
def wsX11_faulty_r5 : List Cond := [Cond.methodLink RX11 116 yX11_normals, Cond.instanceMethod yX11_normals, Cond.selects RX11 yX11_normals yX11_normals, Cond.code yX11_normals cX11_normals 4 (some .int), Cond.constant RX11 115 (-1000003), Cond.fieldLink RX11 64 "FallingWordsModel" "rowSteps" "I", Cond.fieldLink RX11 29 "FallingWordsModel" "rowRule" "[I", Cond.fieldLink RX11 26 "FallingWordsModel" "row" "[I", Cond.methodLink RX11 108 yX11_comesFirst, Cond.instanceMethod yX11_comesFirst, Cond.selects RX11 yX11_comesFirst yX11_comesFirst, Cond.code yX11_comesFirst cX11_comesFirst 5 none, Cond.methodLink RX11 112 yX11_reduces, Cond.instanceMethod yX11_reduces, Cond.selects RX11 yX11_reduces yX11_reduces, Cond.code yX11_reduces cX11_reduces 4 (some .int), Cond.fieldLink RX11 75 "FallingWordsModel" "ringFrom" "I"]
def wsX11_faulty : List Cond := .code yX11_faulty cX11_faulty 3 (some .int) :: ((wsX11_faulty_r1 ++ (wsX11_faulty_r2 ++ (wsX11_faulty_r3 ++ (wsX11_faulty_r4 ++ wsX11_faulty_r5)))) ++ wsX110)
def wsX11_fault_r1 : List Cond := [Cond.constant RX11 78 (-1000001), Cond.constant RX11 43 (-1000004), Cond.fieldLink RX11 220 "FallingWordsModel" "reason" "I", Cond.fieldLink RX11 191 "FallingWordsModel" "cause" "I", Cond.methodLink RX11 44 yX11_in, Cond.static yX11_in, Cond.initialized RX11, Cond.code yX11_in cX11_in 3 (some .boolean), Cond.methodLink RX11 223 yX11_faulty, Cond.instanceMethod yX11_faulty, Cond.selects RX11 yX11_faulty yX11_faulty, Cond.code yX11_faulty cX11_faulty 3 (some .int), Cond.fieldLink RX11 19 "FallingWordsModel" "aside" "[I", Cond.fieldLink RX11 7 "FallingWordsModel" "s" "[I", Cond.fieldLink RX11 179 "FallingWordsModel" "at" "I", Cond.fieldLink RX11 176 "FallingWordsModel" "typed" "I", Cond.methodLink RX11 217 yX11_doesNext, Cond.instanceMethod yX11_doesNext, Cond.selects RX11 yX11_doesNext yX11_doesNext, Cond.code yX11_doesNext cX11_doesNext 3 (some .int), Cond.methodLink RX11 182 yX11_sign, Cond.instanceMethod yX11_sign, Cond.selects RX11 yX11_sign yX11_sign, Cond.code yX11_sign cX11_sign 1 (some .int)]
def wsX11_fault_r2 : List Cond := [Cond.fieldLink RX11 22 "FallingWordsModel" "text" "[C", Cond.methodLink RX11 204 yX11_readsRule, Cond.instanceMethod yX11_readsRule, Cond.selects RX11 yX11_readsRule yX11_readsRule, Cond.code yX11_readsRule cX11_readsRule 6 (some .int), Cond.fieldLink RX11 185 "FallingWordsModel" "read" "I", Cond.fieldLink RX11 188 "FallingWordsModel" "readLength" "I", Cond.methodLink RX11 194 yX11_readsWord, Cond.instanceMethod yX11_readsWord, Cond.selects RX11 yX11_readsWord yX11_readsWord, Cond.code yX11_readsWord cX11_readsWord 1 none, Cond.methodLink RX11 197 yX11_takes, Cond.instanceMethod yX11_takes, Cond.selects RX11 yX11_takes yX11_takes, Cond.code yX11_takes cX11_takes 3 (some .boolean), Cond.methodLink RX11 201 yX11_says, Cond.instanceMethod yX11_says, Cond.selects RX11 yX11_says yX11_says, Cond.code yX11_says cX11_says 3 (some .int), Cond.methodLink RX11 48 yX11_left, Cond.instanceMethod yX11_left, Cond.selects RX11 yX11_left yX11_left, Cond.code yX11_left cX11_left 2 (some .int), Cond.methodLink RX11 51 yX11_right]
def wsX11_fault_r3 : List Cond := [Cond.instanceMethod yX11_right, Cond.selects RX11 yX11_right yX11_right, Cond.code yX11_right cX11_right 2 (some .int), Cond.methodLink RX11 169 yX11_adds, Cond.instanceMethod yX11_adds, Cond.selects RX11 yX11_adds yX11_adds, Cond.code yX11_adds cX11_adds 4 none, Cond.methodLink RX11 207 yX11_readsDigit, Cond.instanceMethod yX11_readsDigit, Cond.selects RX11 yX11_readsDigit yX11_readsDigit, Cond.code yX11_readsDigit cX11_readsDigit 5 (some .int), Cond.methodLink RX11 88 yX11_drops, Cond.instanceMethod yX11_drops, Cond.selects RX11 yX11_drops yX11_drops, Cond.code yX11_drops cX11_drops 3 (some .int), Cond.methodLink RX11 82 yX11_isRule, Cond.instanceMethod yX11_isRule, Cond.selects RX11 yX11_isRule yX11_isRule, Cond.code yX11_isRule cX11_isRule 2 (some .boolean), Cond.methodLink RX11 94 yX11_goes, Cond.instanceMethod yX11_goes, Cond.selects RX11 yX11_goes yX11_goes, Cond.code yX11_goes cX11_goes 3 (some .int), Cond.methodLink RX11 211 yX11_readsSet]
def wsX11_fault_r4 : List Cond := [Cond.instanceMethod yX11_readsSet, Cond.selects RX11 yX11_readsSet yX11_readsSet, Cond.code yX11_readsSet cX11_readsSet 2 (some .int), Cond.methodLink RX11 214 yX11_readsDeed, Cond.instanceMethod yX11_readsDeed, Cond.selects RX11 yX11_readsDeed yX11_readsDeed, Cond.code yX11_readsDeed cX11_readsDeed 4 (some .int), Cond.methodLink RX11 104 yX11_steps, Cond.instanceMethod yX11_steps, Cond.selects RX11 yX11_steps yX11_steps, Cond.code yX11_steps cX11_steps 1 (some .int), Cond.constant RX11 103 (-1000002), Cond.fieldLink RX11 54 "FallingWordsModel" "chosenRule" "I", Cond.fieldLink RX11 58 "FallingWordsModel" "chosenPlace" "I", Cond.methodLink RX11 67 yX11_chooses, Cond.instanceMethod yX11_chooses, Cond.selects RX11 yX11_chooses yX11_chooses, Cond.code yX11_chooses cX11_chooses 6 (some .boolean), Cond.methodLink RX11 35 yX11_length, Cond.static yX11_length, Cond.code yX11_length cX11_length 3 (some .int), Cond.methodLink RX11 61 yX11_stands, Cond.static yX11_stands, Cond.code yX11_stands cX11_stands 6 (some .boolean)]
def wsX11_fault_r5 : List Cond := [Cond.methodLink RX11 71 yX11_applied, Cond.instanceMethod yX11_applied, Cond.selects RX11 yX11_applied yX11_applied, Cond.code yX11_applied cX11_applied 7 (some .int), Cond.methodLink RX11 116 yX11_normals, Cond.instanceMethod yX11_normals, Cond.selects RX11 yX11_normals yX11_normals, Cond.code yX11_normals cX11_normals 4 (some .int), Cond.constant RX11 115 (-1000003), Cond.fieldLink RX11 64 "FallingWordsModel" "rowSteps" "I", Cond.fieldLink RX11 29 "FallingWordsModel" "rowRule" "[I", Cond.fieldLink RX11 26 "FallingWordsModel" "row" "[I", Cond.methodLink RX11 108 yX11_comesFirst, Cond.instanceMethod yX11_comesFirst, Cond.selects RX11 yX11_comesFirst yX11_comesFirst, Cond.code yX11_comesFirst cX11_comesFirst 5 none, Cond.methodLink RX11 112 yX11_reduces, Cond.instanceMethod yX11_reduces, Cond.selects RX11 yX11_reduces yX11_reduces, Cond.code yX11_reduces cX11_reduces 4 (some .int), Cond.fieldLink RX11 75 "FallingWordsModel" "ringFrom" "I"]
def wsX11_fault : List Cond := .code yX11_fault cX11_fault 3 (some .int) :: ((wsX11_fault_r1 ++ (wsX11_fault_r2 ++ (wsX11_fault_r3 ++ (wsX11_fault_r4 ++ wsX11_fault_r5)))) ++ wsX110)
def wsX11_play_r1 : List Cond := [Cond.constant RX11 43 (-1000004), Cond.constant RX11 103 (-1000002), Cond.fieldLink RX11 179 "FallingWordsModel" "at" "I", Cond.fieldLink RX11 176 "FallingWordsModel" "typed" "I", Cond.methodLink RX11 223 yX11_faulty, Cond.instanceMethod yX11_faulty, Cond.selects RX11 yX11_faulty yX11_faulty, Cond.initialized RX11, Cond.code yX11_faulty cX11_faulty 3 (some .int), Cond.fieldLink RX11 19 "FallingWordsModel" "aside" "[I", Cond.fieldLink RX11 7 "FallingWordsModel" "s" "[I", Cond.fieldLink RX11 220 "FallingWordsModel" "reason" "I", Cond.methodLink RX11 217 yX11_doesNext, Cond.instanceMethod yX11_doesNext, Cond.selects RX11 yX11_doesNext yX11_doesNext, Cond.code yX11_doesNext cX11_doesNext 3 (some .int), Cond.methodLink RX11 182 yX11_sign, Cond.instanceMethod yX11_sign, Cond.selects RX11 yX11_sign yX11_sign, Cond.code yX11_sign cX11_sign 1 (some .int), Cond.fieldLink RX11 22 "FallingWordsModel" "text" "[C", Cond.methodLink RX11 204 yX11_readsRule, Cond.instanceMethod yX11_readsRule, Cond.selects RX11 yX11_readsRule yX11_readsRule]
def wsX11_play_r2 : List Cond := [Cond.code yX11_readsRule cX11_readsRule 6 (some .int), Cond.fieldLink RX11 185 "FallingWordsModel" "read" "I", Cond.fieldLink RX11 188 "FallingWordsModel" "readLength" "I", Cond.methodLink RX11 194 yX11_readsWord, Cond.instanceMethod yX11_readsWord, Cond.selects RX11 yX11_readsWord yX11_readsWord, Cond.code yX11_readsWord cX11_readsWord 1 none, Cond.methodLink RX11 44 yX11_in, Cond.static yX11_in, Cond.code yX11_in cX11_in 3 (some .boolean), Cond.methodLink RX11 197 yX11_takes, Cond.instanceMethod yX11_takes, Cond.selects RX11 yX11_takes yX11_takes, Cond.code yX11_takes cX11_takes 3 (some .boolean), Cond.methodLink RX11 201 yX11_says, Cond.instanceMethod yX11_says, Cond.selects RX11 yX11_says yX11_says, Cond.code yX11_says cX11_says 3 (some .int), Cond.fieldLink RX11 191 "FallingWordsModel" "cause" "I", Cond.methodLink RX11 48 yX11_left, Cond.instanceMethod yX11_left, Cond.selects RX11 yX11_left yX11_left, Cond.code yX11_left cX11_left 2 (some .int), Cond.methodLink RX11 51 yX11_right]
def wsX11_play_r3 : List Cond := [Cond.instanceMethod yX11_right, Cond.selects RX11 yX11_right yX11_right, Cond.code yX11_right cX11_right 2 (some .int), Cond.methodLink RX11 169 yX11_adds, Cond.instanceMethod yX11_adds, Cond.selects RX11 yX11_adds yX11_adds, Cond.code yX11_adds cX11_adds 4 none, Cond.methodLink RX11 207 yX11_readsDigit, Cond.instanceMethod yX11_readsDigit, Cond.selects RX11 yX11_readsDigit yX11_readsDigit, Cond.code yX11_readsDigit cX11_readsDigit 5 (some .int), Cond.constant RX11 78 (-1000001), Cond.methodLink RX11 88 yX11_drops, Cond.instanceMethod yX11_drops, Cond.selects RX11 yX11_drops yX11_drops, Cond.code yX11_drops cX11_drops 3 (some .int), Cond.methodLink RX11 82 yX11_isRule, Cond.instanceMethod yX11_isRule, Cond.selects RX11 yX11_isRule yX11_isRule, Cond.code yX11_isRule cX11_isRule 2 (some .boolean), Cond.methodLink RX11 94 yX11_goes, Cond.instanceMethod yX11_goes, Cond.selects RX11 yX11_goes yX11_goes, Cond.code yX11_goes cX11_goes 3 (some .int)]
def wsX11_play_r4 : List Cond := [Cond.methodLink RX11 211 yX11_readsSet, Cond.instanceMethod yX11_readsSet, Cond.selects RX11 yX11_readsSet yX11_readsSet, Cond.code yX11_readsSet cX11_readsSet 2 (some .int), Cond.methodLink RX11 214 yX11_readsDeed, Cond.instanceMethod yX11_readsDeed, Cond.selects RX11 yX11_readsDeed yX11_readsDeed, Cond.code yX11_readsDeed cX11_readsDeed 4 (some .int), Cond.methodLink RX11 104 yX11_steps, Cond.instanceMethod yX11_steps, Cond.selects RX11 yX11_steps yX11_steps, Cond.code yX11_steps cX11_steps 1 (some .int), Cond.fieldLink RX11 54 "FallingWordsModel" "chosenRule" "I", Cond.fieldLink RX11 58 "FallingWordsModel" "chosenPlace" "I", Cond.methodLink RX11 67 yX11_chooses, Cond.instanceMethod yX11_chooses, Cond.selects RX11 yX11_chooses yX11_chooses, Cond.code yX11_chooses cX11_chooses 6 (some .boolean), Cond.methodLink RX11 35 yX11_length, Cond.static yX11_length, Cond.code yX11_length cX11_length 3 (some .int), Cond.methodLink RX11 61 yX11_stands, Cond.static yX11_stands, Cond.code yX11_stands cX11_stands 6 (some .boolean)]
def wsX11_play_r5 : List Cond := [Cond.methodLink RX11 71 yX11_applied, Cond.instanceMethod yX11_applied, Cond.selects RX11 yX11_applied yX11_applied, Cond.code yX11_applied cX11_applied 7 (some .int), Cond.methodLink RX11 116 yX11_normals, Cond.instanceMethod yX11_normals, Cond.selects RX11 yX11_normals yX11_normals, Cond.code yX11_normals cX11_normals 4 (some .int), Cond.constant RX11 115 (-1000003), Cond.fieldLink RX11 64 "FallingWordsModel" "rowSteps" "I", Cond.fieldLink RX11 29 "FallingWordsModel" "rowRule" "[I", Cond.fieldLink RX11 26 "FallingWordsModel" "row" "[I", Cond.methodLink RX11 108 yX11_comesFirst, Cond.instanceMethod yX11_comesFirst, Cond.selects RX11 yX11_comesFirst yX11_comesFirst, Cond.code yX11_comesFirst cX11_comesFirst 5 none, Cond.methodLink RX11 112 yX11_reduces, Cond.instanceMethod yX11_reduces, Cond.selects RX11 yX11_reduces yX11_reduces, Cond.code yX11_reduces cX11_reduces 4 (some .int), Cond.fieldLink RX11 75 "FallingWordsModel" "ringFrom" "I", Cond.methodLink RX11 85 yX11_keeps, Cond.instanceMethod yX11_keeps, Cond.selects RX11 yX11_keeps yX11_keeps]
def wsX11_play_r6 : List Cond := [Cond.code yX11_keeps cX11_keeps 2 none, Cond.fieldLink RX11 16 "FallingWordsModel" "begun" "[I", Cond.methodLink RX11 91 yX11_acted, Cond.instanceMethod yX11_acted, Cond.selects RX11 yX11_acted yX11_acted, Cond.code yX11_acted cX11_acted 3 (some .int), Cond.fieldLink RX11 79 "FallingWordsModel" "states" "I", Cond.fieldLink RX11 13 "FallingWordsModel" "was" "[I"]
def wsX11_play : List Cond := .code yX11_play cX11_play 2 (some .int) :: ((wsX11_play_r1 ++ (wsX11_play_r2 ++ (wsX11_play_r3 ++ (wsX11_play_r4 ++ (wsX11_play_r5 ++ wsX11_play_r6))))) ++ wsX110)
def wsJ9_max_7cf53 : List Cond := .code yJ9_max_7cf53 cJ9_max_7cf53 2 (some .int) :: ([])
def wsJ9_min_7cf53 : List Cond := .code yJ9_min_7cf53 cJ9_min_7cf53 2 (some .int) :: ([])
def wsL_law_r1 : List Cond := [Cond.classLink RL 7 RX10, Cond.instantiable RX10 8, Cond.initialized RX10, Cond.classLink RL 10 RX11, Cond.instantiable RX11 27, Cond.initialized RX11, Cond.methodLink RL 9 yX10_init, Cond.instanceMethod yX10_init, Cond.code yX10_init cX10_init 1 none, Cond.methodLink RX10 1 objectInit, Cond.instanceMethod objectInit, Cond.code objectInit ⟨#[0xb1]⟩ 1 none, Cond.classLink RX10 7 RX6, Cond.instantiable RX6 6, Cond.initialized RX6, Cond.fieldLink RX10 10 "FallingWords" "now" "LFallingWords$State;", Cond.fieldLink RX10 16 "FallingWords" "trial" "LFallingWords$State;", Cond.classLink RX10 19 RX0, Cond.instantiable RX0 2, Cond.initialized RX0, Cond.fieldLink RX10 22 "FallingWords" "history" "LFallingWords$History;", Cond.classLink RX10 26 RX3, Cond.instantiable RX3 5, Cond.initialized RX3]
def wsL_law_r2 : List Cond := [Cond.fieldLink RX10 29 "FallingWords" "reduction" "LFallingWords$Reduction;", Cond.classLink RX10 33 RX2, Cond.instantiable RX2 7, Cond.initialized RX2, Cond.fieldLink RX10 36 "FallingWords" "reach" "LFallingWords$Reach;", Cond.classLink RX10 40 RX1, Cond.instantiable RX1 6, Cond.initialized RX1, Cond.fieldLink RX10 43 "FallingWords" "overlaps" "LFallingWords$Overlaps;", Cond.classLink RX10 47 RX8, Cond.instantiable RX8 7, Cond.initialized RX8, Cond.fieldLink RX10 50 "FallingWords" "text" "LFallingWords$Text;", Cond.classLink RX10 54 RX5, Cond.instantiable RX5 4, Cond.initialized RX5, Cond.fieldLink RX10 57 "FallingWords" "script" "LFallingWords$Script;", Cond.instanceMethod yX6_init, Cond.code yX6_init cX6_init 1 none, Cond.methodLink RX6 3 objectInit, Cond.classLink RX6 9 RX4, Cond.instantiable RX4 6, Cond.initialized RX4, Cond.fieldLink RX6 12 "FallingWords$State" "rules" "LFallingWords$Rules;"]
def wsL_law_r3 : List Cond := [Cond.classLink RX6 18 RX7, Cond.instantiable RX7 3, Cond.initialized RX7, Cond.fieldLink RX6 21 "FallingWords$State" "store" "LFallingWords$Store;", Cond.fieldLink RX6 27 "FallingWords$State" "word" "I", Cond.fieldLink RX6 31 "FallingWords$State" "choosing" "I", Cond.instanceMethod yX4_init, Cond.code yX4_init cX4_init 1 none, Cond.methodLink RX4 3 objectInit, Cond.arrayClass .int, Cond.fieldLink RX4 9 "FallingWords$Rules" "left" "[I", Cond.fieldLink RX4 15 "FallingWords$Rules" "right" "[I", Cond.fieldLink RX4 18 "FallingWords$Rules" "leftLength" "[I", Cond.fieldLink RX4 21 "FallingWords$Rules" "rightLength" "[I", Cond.fieldLink RX4 24 "FallingWords$Rules" "times" "[I", Cond.instanceMethod yX7_init, Cond.code yX7_init cX7_init 1 none, Cond.methodLink RX7 3 objectInit, Cond.fieldLink RX7 9 "FallingWords$Store" "words" "[I", Cond.fieldLink RX7 15 "FallingWords$Store" "normals" "[I", Cond.instanceMethod yX0_init, Cond.code yX0_init cX0_init 2 none, Cond.methodLink RX0 3 objectInit, Cond.classLink RX0 9 RX6]
def wsL_law_r4 : List Cond := [Cond.fieldLink RX0 11 "FallingWords$History" "states" "[LFallingWords$State;", Cond.instanceMethod yX3_init, Cond.code yX3_init cX3_init 1 none, Cond.methodLink RX3 3 objectInit, Cond.fieldLink RX3 9 "FallingWords$Reduction" "words" "[I", Cond.fieldLink RX3 15 "FallingWords$Reduction" "rulesUsed" "[I", Cond.instanceMethod yX2_init, Cond.code yX2_init cX2_init 1 none, Cond.methodLink RX2 3 objectInit, Cond.fieldLink RX2 9 "FallingWords$Reach" "words" "[I", Cond.fieldLink RX2 15 "FallingWords$Reach" "seats" "[I", Cond.instanceMethod yX1_init, Cond.code yX1_init cX1_init 1 none, Cond.methodLink RX1 3 objectInit, Cond.instanceMethod yX8_init, Cond.code yX8_init cX8_init 1 none, Cond.methodLink RX8 3 objectInit, Cond.arrayClass .char, Cond.fieldLink RX8 9 "FallingWords$Text" "characters" "[C", Cond.instanceMethod yX5_init, Cond.code yX5_init cX5_init 1 none, Cond.methodLink RX5 3 objectInit, Cond.methodLink RL 12 yX11_init, Cond.instanceMethod yX11_init]
def wsL_law_r5 : List Cond := [Cond.code yX11_init cX11_init 1 none, Cond.methodLink RX11 1 objectInit, Cond.fieldLink RX11 7 "FallingWordsModel" "s" "[I", Cond.fieldLink RX11 13 "FallingWordsModel" "was" "[I", Cond.fieldLink RX11 16 "FallingWordsModel" "begun" "[I", Cond.fieldLink RX11 19 "FallingWordsModel" "aside" "[I", Cond.fieldLink RX11 22 "FallingWordsModel" "text" "[C", Cond.fieldLink RX11 26 "FallingWordsModel" "row" "[I", Cond.fieldLink RX11 29 "FallingWordsModel" "rowRule" "[I", Cond.fieldLink RX11 32 "FallingWordsModel" "found" "[I", Cond.methodLink RL 13 yX10_drop, Cond.instanceMethod yX10_drop, Cond.selects RX10 yX10_drop yX10_drop, Cond.code yX10_drop cX10_drop 2 (some .int), Cond.constant RX10 71 (-1000001), Cond.instanceMethod yX4_contains, Cond.selects RX4 yX4_contains yX4_contains, Cond.code yX4_contains cX4_contains 2 (some .boolean), Cond.fieldLink RX4 33 "FallingWords$Rules" "size" "I", Cond.methodLink RX10 72 yX10_startTrial, Cond.instanceMethod yX10_startTrial, Cond.selects RX10 yX10_startTrial yX10_startTrial, Cond.code yX10_startTrial cX10_startTrial 1 none, Cond.instanceMethod yX6_takeOver]
def wsL_law_r6 : List Cond := [Cond.selects RX6 yX6_takeOver yX6_takeOver, Cond.code yX6_takeOver cX6_takeOver 2 none, Cond.fieldLink RX6 41 "FallingWords$State" "taken" "I", Cond.fieldLink RX6 44 "FallingWords$State" "steps" "I", Cond.instanceMethod yX4_takeOver, Cond.selects RX4 yX4_takeOver yX4_takeOver, Cond.code yX4_takeOver cX4_takeOver 2 none, Cond.methodLink RX4 27 arraycopyName, Cond.native arraycopyName, Cond.static arraycopyName, Cond.initialized "java/lang/System", Cond.instanceMethod yX7_takeOver, Cond.selects RX7 yX7_takeOver yX7_takeOver, Cond.code yX7_takeOver cX7_takeOver 2 none, Cond.methodLink RX7 18 arraycopyName, Cond.fieldLink RX7 24 "FallingWords$Store" "size" "I", Cond.instanceMethod yX6_removeRule, Cond.selects RX6 yX6_removeRule yX6_removeRule, Cond.code yX6_removeRule cX6_removeRule 2 none, Cond.instanceMethod yX4_remove, Cond.selects RX4 yX4_remove yX4_remove, Cond.code yX4_remove cX4_remove 3 none, Cond.methodLink RX4 47 yX4_contains, Cond.methodLink RX10 79 yX10_keepTrial]
def wsL_law_r7 : List Cond := [Cond.instanceMethod yX10_keepTrial, Cond.selects RX10 yX10_keepTrial yX10_keepTrial, Cond.code yX10_keepTrial cX10_keepTrial 1 none, Cond.instanceMethod yX0_keep, Cond.selects RX0 yX0_keep yX0_keep, Cond.code yX0_keep cX0_keep 2 none, Cond.fieldLink RX0 18 "FallingWords$History" "size" "I", Cond.methodLink RX0 22 yX0_forgetOldest, Cond.instanceMethod yX0_forgetOldest, Cond.selects RX0 yX0_forgetOldest yX0_forgetOldest, Cond.code yX0_forgetOldest cX0_forgetOldest 3 none, Cond.methodLink RL 17 yX11_drop, Cond.instanceMethod yX11_drop, Cond.selects RX11 yX11_drop yX11_drop, Cond.code yX11_drop cX11_drop 2 (some .int), Cond.methodLink RX11 85 yX11_keeps, Cond.instanceMethod yX11_keeps, Cond.selects RX11 yX11_keeps yX11_keeps, Cond.code yX11_keeps cX11_keeps 2 none, Cond.methodLink RX11 88 yX11_drops, Cond.instanceMethod yX11_drops, Cond.selects RX11 yX11_drops yX11_drops, Cond.code yX11_drops cX11_drops 3 (some .int), Cond.constant RX11 78 (-1000001)]
def wsL_law_r8 : List Cond := [Cond.methodLink RX11 82 yX11_isRule, Cond.instanceMethod yX11_isRule, Cond.selects RX11 yX11_isRule yX11_isRule, Cond.code yX11_isRule cX11_isRule 2 (some .boolean), Cond.methodLink RX11 44 yX11_in, Cond.static yX11_in, Cond.code yX11_in cX11_in 3 (some .boolean), Cond.methodLink RX11 91 yX11_acted, Cond.instanceMethod yX11_acted, Cond.selects RX11 yX11_acted yX11_acted, Cond.code yX11_acted cX11_acted 3 (some .int), Cond.fieldLink RX11 79 "FallingWordsModel" "states" "I", Cond.methodLink RL 18 yX10_way, Cond.instanceMethod yX10_way, Cond.selects RX10 yX10_way yX10_way, Cond.code yX10_way cX10_way 3 (some .int), Cond.instanceMethod yX6_setChoosing, Cond.selects RX6 yX6_setChoosing yX6_setChoosing, Cond.code yX6_setChoosing cX6_setChoosing 2 none, Cond.methodLink RL 21 yX11_way, Cond.instanceMethod yX11_way, Cond.selects RX11 yX11_way yX11_way, Cond.code yX11_way cX11_way 2 (some .int), Cond.methodLink RX11 94 yX11_goes]
def wsL_law_r9 : List Cond := [Cond.instanceMethod yX11_goes, Cond.selects RX11 yX11_goes yX11_goes, Cond.code yX11_goes cX11_goes 3 (some .int), Cond.methodLink RL 22 yX10_ruleOf, Cond.instanceMethod yX10_ruleOf, Cond.selects RX10 yX10_ruleOf yX10_ruleOf, Cond.code yX10_ruleOf cX10_ruleOf 4 (some .int), Cond.methodLink RX10 92 yX10_isLetterOf, Cond.static yX10_isLetterOf, Cond.code yX10_isLetterOf cX10_isLetterOf 3 (some .boolean), Cond.static yX9_letterOf, Cond.initialized RX9, Cond.code yX9_letterOf cX9_letterOf 3 (some .int), Cond.constant RX9 15 (-1000004), Cond.methodLink RX9 9 yX9_lengthOf, Cond.static yX9_lengthOf, Cond.code yX9_lengthOf cX9_lengthOf 3 (some .int), Cond.instanceMethod yX4_placesIn, Cond.selects RX4 yX4_placesIn yX4_placesIn, Cond.code yX4_placesIn cX4_placesIn 6 (some .int), Cond.methodLink RX4 51 yX4_appliesAt, Cond.instanceMethod yX4_appliesAt, Cond.selects RX4 yX4_appliesAt yX4_appliesAt, Cond.code yX4_appliesAt cX4_appliesAt 8 (some .boolean)]
def wsL_law_r10 : List Cond := [Cond.methodLink RL 26 yX11_ruleOf, Cond.instanceMethod yX11_ruleOf, Cond.selects RX11 yX11_ruleOf yX11_ruleOf, Cond.code yX11_ruleOf cX11_ruleOf 3 (some .int), Cond.methodLink RX11 48 yX11_left, Cond.instanceMethod yX11_left, Cond.selects RX11 yX11_left yX11_left, Cond.code yX11_left cX11_left 2 (some .int), Cond.methodLink RX11 35 yX11_length, Cond.static yX11_length, Cond.code yX11_length cX11_length 3 (some .int), Cond.methodLink RX11 51 yX11_right, Cond.instanceMethod yX11_right, Cond.selects RX11 yX11_right yX11_right, Cond.code yX11_right cX11_right 2 (some .int), Cond.methodLink RX11 97 yX11_places, Cond.instanceMethod yX11_places, Cond.selects RX11 yX11_places yX11_places, Cond.code yX11_places cX11_places 4 (some .int), Cond.methodLink RX11 61 yX11_stands, Cond.static yX11_stands, Cond.code yX11_stands cX11_stands 6 (some .boolean), Cond.methodLink RX11 100 yX11_letterOf, Cond.static yX11_letterOf]
def wsL_law_r11 : List Cond := [Cond.code yX11_letterOf cX11_letterOf 2 (some .int), Cond.constant RX11 43 (-1000004), Cond.methodLink RX11 39 yX11_letter, Cond.static yX11_letter, Cond.code yX11_letter cX11_letter 2 (some .int), Cond.methodLink RL 27 yX10_step, Cond.instanceMethod yX10_step, Cond.selects RX10 yX10_step yX10_step, Cond.code yX10_step cX10_step 2 (some .int), Cond.instanceMethod yX6_takeStep, Cond.selects RX6 yX6_takeStep yX6_takeStep, Cond.code yX6_takeStep cX6_takeStep 3 (some .int), Cond.constant RX6 62 (-1000002), Cond.instanceMethod yX4_choiceFor, Cond.selects RX4 yX4_choiceFor yX4_choiceFor, Cond.code yX4_choiceFor cX4_choiceFor 12 (some .int), Cond.static yX4_ruleIn, Cond.code yX4_ruleIn cX4_ruleIn 1 (some .int), Cond.static yX4_placeIn, Cond.code yX4_placeIn cX4_placeIn 1 (some .int), Cond.instanceMethod yX4_applied, Cond.selects RX4 yX4_applied yX4_applied, Cond.code yX4_applied cX4_applied 9 (some .int), Cond.static yX9_lastBits]
def wsL_law_r12 : List Cond := [Cond.code yX9_lastBits cX9_lastBits 2 (some .int), Cond.methodLink RL 31 yX11_step, Cond.instanceMethod yX11_step, Cond.selects RX11 yX11_step yX11_step, Cond.code yX11_step cX11_step 1 (some .int), Cond.methodLink RX11 104 yX11_steps, Cond.instanceMethod yX11_steps, Cond.selects RX11 yX11_steps yX11_steps, Cond.code yX11_steps cX11_steps 1 (some .int), Cond.constant RX11 103 (-1000002), Cond.fieldLink RX11 54 "FallingWordsModel" "chosenRule" "I", Cond.fieldLink RX11 58 "FallingWordsModel" "chosenPlace" "I", Cond.methodLink RX11 67 yX11_chooses, Cond.instanceMethod yX11_chooses, Cond.selects RX11 yX11_chooses yX11_chooses, Cond.code yX11_chooses cX11_chooses 6 (some .boolean), Cond.methodLink RX11 71 yX11_applied, Cond.instanceMethod yX11_applied, Cond.selects RX11 yX11_applied yX11_applied, Cond.code yX11_applied cX11_applied 7 (some .int), Cond.methodLink RL 32 yX10_normal, Cond.instanceMethod yX10_normal, Cond.selects RX10 yX10_normal yX10_normal, Cond.code yX10_normal cX10_normal 2 (some .int)]
def wsL_law_r13 : List Cond := [Cond.instanceMethod yX6_reduce, Cond.selects RX6 yX6_reduce yX6_reduce, Cond.code yX6_reduce cX6_reduce 3 (some .int), Cond.constant RX6 93 (-1000003), Cond.instanceMethod yX7_indexOf, Cond.selects RX7 yX7_indexOf yX7_indexOf, Cond.code yX7_indexOf cX7_indexOf 3 (some .int), Cond.instanceMethod yX7_use, Cond.selects RX7 yX7_use yX7_use, Cond.code yX7_use cX7_use 3 (some .int), Cond.methodLink RX7 28 yX7_setAhead, Cond.instanceMethod yX7_setAhead, Cond.selects RX7 yX7_setAhead yX7_setAhead, Cond.code yX7_setAhead cX7_setAhead 5 none, Cond.instanceMethod yX3_run, Cond.selects RX3 yX3_run yX3_run, Cond.code yX3_run cX3_run 5 none, Cond.fieldLink RX3 18 "FallingWords$Reduction" "steps" "I", Cond.fieldLink RX3 26 "FallingWords$Reduction" "ringStart" "I", Cond.fieldLink RX3 29 "FallingWords$Reduction" "outcome" "I", Cond.methodLink RX3 22 yX3_firstTimeOf, Cond.instanceMethod yX3_firstTimeOf, Cond.selects RX3 yX3_firstTimeOf yX3_firstTimeOf, Cond.code yX3_firstTimeOf cX3_firstTimeOf 3 (some .int)]
def wsL_law_r14 : List Cond := [Cond.instanceMethod yX3_countRules, Cond.selects RX3 yX3_countRules yX3_countRules, Cond.code yX3_countRules cX3_countRules 3 none, Cond.instanceMethod yX3_last, Cond.selects RX3 yX3_last yX3_last, Cond.code yX3_last cX3_last 1 (some .int), Cond.instanceMethod yX7_put, Cond.selects RX7 yX7_put yX7_put, Cond.code yX7_put cX7_put 3 none, Cond.methodLink RL 35 yX11_normal, Cond.instanceMethod yX11_normal, Cond.selects RX11 yX11_normal yX11_normal, Cond.code yX11_normal cX11_normal 1 (some .int), Cond.methodLink RX11 116 yX11_normals, Cond.instanceMethod yX11_normals, Cond.selects RX11 yX11_normals yX11_normals, Cond.code yX11_normals cX11_normals 4 (some .int), Cond.constant RX11 115 (-1000003), Cond.fieldLink RX11 64 "FallingWordsModel" "rowSteps" "I", Cond.methodLink RX11 108 yX11_comesFirst, Cond.instanceMethod yX11_comesFirst, Cond.selects RX11 yX11_comesFirst yX11_comesFirst, Cond.code yX11_comesFirst cX11_comesFirst 5 none, Cond.methodLink RX11 112 yX11_reduces]
def wsL_law_r15 : List Cond := [Cond.instanceMethod yX11_reduces, Cond.selects RX11 yX11_reduces yX11_reduces, Cond.code yX11_reduces cX11_reduces 4 (some .int), Cond.fieldLink RX11 75 "FallingWordsModel" "ringFrom" "I", Cond.methodLink RL 36 yX10_letterAt, Cond.instanceMethod yX10_letterAt, Cond.selects RX10 yX10_letterAt yX10_letterAt, Cond.code yX10_letterAt cX10_letterAt 2 (some .int), Cond.methodLink RL 39 yX11_letterAt, Cond.instanceMethod yX11_letterAt, Cond.selects RX11 yX11_letterAt yX11_letterAt, Cond.code yX11_letterAt cX11_letterAt 2 (some .int), Cond.methodLink RL 40 yX10_next, Cond.instanceMethod yX10_next, Cond.selects RX10 yX10_next yX10_next, Cond.code yX10_next cX10_next 3 (some .int), Cond.constant RX10 135 (-1000004), Cond.methodLink RL 43 yX11_next, Cond.instanceMethod yX11_next, Cond.selects RX11 yX11_next yX11_next, Cond.code yX11_next cX11_next 2 (some .int), Cond.methodLink RL 44 yX10_reduced, Cond.instanceMethod yX10_reduced, Cond.selects RX10 yX10_reduced yX10_reduced]
def wsL_law_r16 : List Cond := [Cond.code yX10_reduced cX10_reduced 3 (some .int), Cond.methodLink RX10 153 yX10_ringAnswer, Cond.instanceMethod yX10_ringAnswer, Cond.selects RX10 yX10_ringAnswer yX10_ringAnswer, Cond.code yX10_ringAnswer cX10_ringAnswer 2 (some .int), Cond.methodLink RL 47 yX11_reduced, Cond.instanceMethod yX11_reduced, Cond.selects RX11 yX11_reduced yX11_reduced, Cond.code yX11_reduced cX11_reduced 3 (some .int), Cond.methodLink RL 48 yX10_reached, Cond.instanceMethod yX10_reached, Cond.selects RX10 yX10_reached yX10_reached, Cond.code yX10_reached cX10_reached 4 (some .int), Cond.constant RX10 172 (-1000003), Cond.instanceMethod yX2_run, Cond.selects RX2 yX2_run yX2_run, Cond.code yX2_run cX2_run 4 none, Cond.fieldLink RX2 24 "FallingWords$Reach" "size" "I", Cond.fieldLink RX2 28 "FallingWords$Reach" "tooMany" "Z", Cond.fieldLink RX2 32 "FallingWords$Reach" "ends" "I", Cond.methodLink RX2 18 yJ7_fill_53178, Cond.static yJ7_fill_53178, Cond.initialized RJ7, Cond.code yJ7_fill_53178 cJ7_fill_53178 4 none]
def wsL_law_r17 : List Cond := [Cond.methodLink RX2 35 yX2_add, Cond.instanceMethod yX2_add, Cond.selects RX2 yX2_add yX2_add, Cond.code yX2_add cX2_add 4 none, Cond.constant RX2 78 (-1640531535), Cond.methodLink RX2 39 yX2_addAllFrom, Cond.instanceMethod yX2_addAllFrom, Cond.selects RX2 yX2_addAllFrom yX2_addAllFrom, Cond.code yX2_addAllFrom cX2_addAllFrom 7 none, Cond.methodLink RX2 60 yX2_addEnd, Cond.instanceMethod yX2_addEnd, Cond.selects RX2 yX2_addEnd yX2_addEnd, Cond.code yX2_addEnd cX2_addEnd 2 none, Cond.fieldLink RX2 63 "FallingWords$Reach" "firstEnd" "I", Cond.methodLink RX2 66 Lib.Math.min.name, Cond.static Lib.Math.min.name, Cond.initialized "java/lang/Math", Cond.code Lib.Math.min.name Lib.Math.min.code 2 (some .int), Cond.fieldLink RX2 72 "FallingWords$Reach" "lastEnd" "I", Cond.methodLink RX2 75 Lib.Math.max.name, Cond.static Lib.Math.max.name, Cond.code Lib.Math.max.name Lib.Math.max.code 2 (some .int), Cond.methodLink RL 51 yX11_reached, Cond.instanceMethod yX11_reached]
def wsL_law_r18 : List Cond := [Cond.selects RX11 yX11_reached yX11_reached, Cond.code yX11_reached cX11_reached 3 (some .int), Cond.fieldLink RX11 119 "FallingWordsModel" "many" "I", Cond.methodLink RX11 126 yX11_reachesAll, Cond.instanceMethod yX11_reachesAll, Cond.selects RX11 yX11_reachesAll yX11_reachesAll, Cond.code yX11_reachesAll cX11_reachesAll 4 none, Cond.methodLink RX11 122 yX11_reaches, Cond.instanceMethod yX11_reaches, Cond.selects RX11 yX11_reaches yX11_reaches, Cond.code yX11_reaches cX11_reaches 4 none, Cond.methodLink RX11 129 yX11_ends, Cond.instanceMethod yX11_ends, Cond.selects RX11 yX11_ends yX11_ends, Cond.code yX11_ends cX11_ends 3 (some .int), Cond.methodLink RX11 132 yX11_end, Cond.instanceMethod yX11_end, Cond.selects RX11 yX11_end yX11_end, Cond.code yX11_end cX11_end 5 (some .int), Cond.methodLink RL 52 yX10_storeOf, Cond.instanceMethod yX10_storeOf, Cond.selects RX10 yX10_storeOf yX10_storeOf, Cond.code yX10_storeOf cX10_storeOf 5 (some .int), Cond.methodLink RL 55 yX11_storeOf]
def wsL_law_r19 : List Cond := [Cond.instanceMethod yX11_storeOf, Cond.selects RX11 yX11_storeOf yX11_storeOf, Cond.code yX11_storeOf cX11_storeOf 4 (some .int), Cond.methodLink RL 56 yX10_overlapOf, Cond.instanceMethod yX10_overlapOf, Cond.selects RX10 yX10_overlapOf yX10_overlapOf, Cond.code yX10_overlapOf cX10_overlapOf 3 (some .int), Cond.instanceMethod yX1_find, Cond.selects RX1 yX1_find yX1_find, Cond.code yX1_find cX1_find 5 (some .boolean), Cond.methodLink RX1 11 yX1_isOverlap, Cond.instanceMethod yX1_isOverlap, Cond.selects RX1 yX1_isOverlap yX1_isOverlap, Cond.code yX1_isOverlap cX1_isOverlap 7 (some .boolean), Cond.fieldLink RX1 25 "FallingWords$Overlaps" "first" "I", Cond.fieldLink RX1 29 "FallingWords$Overlaps" "second" "I", Cond.fieldLink RX1 32 "FallingWords$Overlaps" "place" "I", Cond.fieldLink RX1 49 "FallingWords$Overlaps" "word" "I", Cond.methodLink RX1 45 yX1_coveredWord, Cond.instanceMethod yX1_coveredWord, Cond.selects RX1 yX1_coveredWord yX1_coveredWord, Cond.code yX1_coveredWord cX1_coveredWord 4 (some .int), Cond.instanceMethod yX1_verdict, Cond.selects RX1 yX1_verdict yX1_verdict]
def wsL_law_r20 : List Cond := [Cond.code yX1_verdict cX1_verdict 3 (some .int), Cond.fieldLink RX1 93 "FallingWords$Overlaps" "firstNormal" "I", Cond.fieldLink RX1 99 "FallingWords$Overlaps" "secondNormal" "I", Cond.methodLink RX1 76 yX1_firstWord, Cond.instanceMethod yX1_firstWord, Cond.selects RX1 yX1_firstWord yX1_firstWord, Cond.code yX1_firstWord cX1_firstWord 2 (some .int), Cond.methodLink RX1 96 yX1_secondWord, Cond.instanceMethod yX1_secondWord, Cond.selects RX1 yX1_secondWord yX1_secondWord, Cond.code yX1_secondWord cX1_secondWord 2 (some .int), Cond.methodLink RL 59 yX11_overlapOf, Cond.instanceMethod yX11_overlapOf, Cond.selects RX11 yX11_overlapOf yX11_overlapOf, Cond.code yX11_overlapOf cX11_overlapOf 5 (some .int), Cond.fieldLink RX11 136 "FallingWordsModel" "oneRule" "I", Cond.fieldLink RX11 142 "FallingWordsModel" "overlapPlace" "I", Cond.fieldLink RX11 139 "FallingWordsModel" "otherRule" "I", Cond.fieldLink RX11 145 "FallingWordsModel" "oneWord" "I", Cond.fieldLink RX11 148 "FallingWordsModel" "otherWord" "I", Cond.methodLink RX11 166 yX11_finds, Cond.instanceMethod yX11_finds, Cond.selects RX11 yX11_finds yX11_finds, Cond.code yX11_finds cX11_finds 7 (some .int)]
def wsL_law_r21 : List Cond := [Cond.methodLink RX11 157 yX11_isOverlap, Cond.instanceMethod yX11_isOverlap, Cond.selects RX11 yX11_isOverlap yX11_isOverlap, Cond.code yX11_isOverlap cX11_isOverlap 10 (some .boolean), Cond.methodLink RX11 160 yX11_lays, Cond.instanceMethod yX11_lays, Cond.selects RX11 yX11_lays yX11_lays, Cond.code yX11_lays cX11_lays 6 none, Cond.methodLink RX11 163 yX11_parts, Cond.instanceMethod yX11_parts, Cond.selects RX11 yX11_parts yX11_parts, Cond.code yX11_parts cX11_parts 3 (some .int), Cond.fieldLink RX11 151 "FallingWordsModel" "oneNormal" "I", Cond.fieldLink RX11 154 "FallingWordsModel" "otherNormal" "I", Cond.methodLink RL 60 yX10_complete, Cond.instanceMethod yX10_complete, Cond.selects RX10 yX10_complete yX10_complete, Cond.code yX10_complete cX10_complete 5 (some .int), Cond.methodLink RX10 231 Lib.Math.max.name, Cond.methodLink RX10 236 Lib.Math.min.name, Cond.instanceMethod yX1_findParting, Cond.selects RX1 yX1_findParting yX1_findParting, Cond.code yX1_findParting cX1_findParting 4 (some .boolean), Cond.methodLink RX1 21 yX1_verdict]
def wsL_law_r22 : List Cond := [Cond.instanceMethod yX4_isFull, Cond.selects RX4 yX4_isFull yX4_isFull, Cond.code yX4_isFull cX4_isFull 1 (some .boolean), Cond.instanceMethod yX6_addRule, Cond.selects RX6 yX6_addRule yX6_addRule, Cond.code yX6_addRule cX6_addRule 3 none, Cond.instanceMethod yX4_add, Cond.selects RX4 yX4_add yX4_add, Cond.code yX4_add cX4_add 3 none, Cond.methodLink RX4 37 yX4_isFull, Cond.methodLink RL 63 yX11_complete, Cond.instanceMethod yX11_complete, Cond.selects RX11 yX11_complete yX11_complete, Cond.code yX11_complete cX11_complete 4 (some .int), Cond.methodLink RX11 173 yX11_completes, Cond.instanceMethod yX11_completes, Cond.selects RX11 yX11_completes yX11_completes, Cond.code yX11_completes cX11_completes 4 (some .int), Cond.methodLink RX11 169 yX11_adds, Cond.instanceMethod yX11_adds, Cond.selects RX11 yX11_adds yX11_adds, Cond.code yX11_adds cX11_adds 4 none, Cond.methodLink RL 64 yX10_count, Cond.instanceMethod yX10_count]
def wsL_law_r23 : List Cond := [Cond.selects RX10 yX10_count yX10_count, Cond.code yX10_count cX10_count 2 (some .int), Cond.instanceMethod yX1_howMany, Cond.selects RX1 yX1_howMany yX1_howMany, Cond.code yX1_howMany cX1_howMany 4 (some .int), Cond.instanceMethod yX1_howManyAre, Cond.selects RX1 yX1_howManyAre yX1_howManyAre, Cond.code yX1_howManyAre cX1_howManyAre 6 (some .int), Cond.methodLink RL 67 yX11_count, Cond.instanceMethod yX11_count, Cond.selects RX11 yX11_count yX11_count, Cond.code yX11_count cX11_count 2 (some .int), Cond.fieldLink RX11 176 "FallingWordsModel" "typed" "I", Cond.methodLink RL 68 yX10_undo, Cond.instanceMethod yX10_undo, Cond.selects RX10 yX10_undo yX10_undo, Cond.code yX10_undo cX10_undo 1 (some .int), Cond.constant RX10 260 (-1000002), Cond.instanceMethod yX0_restoreTo, Cond.selects RX0 yX0_restoreTo yX0_restoreTo, Cond.code yX0_restoreTo cX0_restoreTo 2 none, Cond.methodLink RL 71 yX11_undo, Cond.instanceMethod yX11_undo, Cond.selects RX11 yX11_undo yX11_undo]
def wsL_law_r24 : List Cond := [Cond.code yX11_undo cX11_undo 2 (some .int), Cond.methodLink RL 72 yX10_type, Cond.instanceMethod yX10_type, Cond.selects RX10 yX10_type yX10_type, Cond.code yX10_type cX10_type 2 (some .int), Cond.instanceMethod yX8_isFull, Cond.selects RX8 yX8_isFull yX8_isFull, Cond.code yX8_isFull cX8_isFull 1 (some .boolean), Cond.fieldLink RX8 15 "FallingWords$Text" "size" "I", Cond.instanceMethod yX8_append, Cond.selects RX8 yX8_append yX8_append, Cond.code yX8_append cX8_append 2 none, Cond.methodLink RX8 19 yX8_isFull, Cond.methodLink RL 75 yX11_type, Cond.instanceMethod yX11_type, Cond.selects RX11 yX11_type yX11_type, Cond.code yX11_type cX11_type 2 (some .int), Cond.methodLink RL 76 yX10_clearText, Cond.instanceMethod yX10_clearText, Cond.selects RX10 yX10_clearText yX10_clearText, Cond.code yX10_clearText cX10_clearText 2 (some .int), Cond.methodLink RL 79 yX11_clearText, Cond.instanceMethod yX11_clearText, Cond.selects RX11 yX11_clearText yX11_clearText]
def wsL_law_r25 : List Cond := [Cond.code yX11_clearText cX11_clearText 2 (some .int), Cond.methodLink RL 80 yX10_fault, Cond.instanceMethod yX10_fault, Cond.selects RX10 yX10_fault yX10_fault, Cond.code yX10_fault cX10_fault 2 (some .int), Cond.instanceMethod yX5_run, Cond.selects RX5 yX5_run yX5_run, Cond.code yX5_run cX5_run 5 none, Cond.fieldLink RX5 9 "FallingWords$Script" "done" "I", Cond.fieldLink RX5 15 "FallingWords$Script" "position" "I", Cond.fieldLink RX5 18 "FallingWords$Script" "reason" "I", Cond.fieldLink RX5 21 "FallingWords$Script" "cause" "I", Cond.instanceMethod yX8_readCommand, Cond.selects RX8 yX8_readCommand yX8_readCommand, Cond.code yX8_readCommand cX8_readCommand 2 (some .boolean), Cond.fieldLink RX8 23 "FallingWords$Text" "at" "I", Cond.fieldLink RX8 30 "FallingWords$Text" "kind" "I", Cond.fieldLink RX8 36 "FallingWords$Text" "firstWord" "I", Cond.fieldLink RX8 43 "FallingWords$Text" "secondWord" "I", Cond.methodLink RX8 26 yX8_here, Cond.instanceMethod yX8_here, Cond.selects RX8 yX8_here yX8_here, Cond.code yX8_here cX8_here 1 (some .int), Cond.methodLink RX8 33 yX8_readWord]
def wsL_law_r26 : List Cond := [Cond.instanceMethod yX8_readWord, Cond.selects RX8 yX8_readWord yX8_readWord, Cond.code yX8_readWord cX8_readWord 3 (some .int), Cond.static yX9_withLetter, Cond.code yX9_withLetter cX9_withLetter 2 (some .int), Cond.methodLink RX8 39 yX8_passes, Cond.instanceMethod yX8_passes, Cond.selects RX8 yX8_passes yX8_passes, Cond.code yX8_passes cX8_passes 2 (some .boolean), Cond.methodLink RX8 46 yX8_readDigit, Cond.instanceMethod yX8_readDigit, Cond.selects RX8 yX8_readDigit yX8_readDigit, Cond.code yX8_readDigit cX8_readDigit 2 (some .boolean), Cond.fieldLink RX8 49 "FallingWords$Text" "digit" "I", Cond.methodLink RX5 33 yX5_perform, Cond.instanceMethod yX5_perform, Cond.selects RX5 yX5_perform yX5_perform, Cond.code yX5_perform cX5_perform 4 none, Cond.methodLink RX5 53 yX5_addRule, Cond.instanceMethod yX5_addRule, Cond.selects RX5 yX5_addRule yX5_addRule, Cond.code yX5_addRule cX5_addRule 6 none, Cond.methodLink RX5 40 yX5_failWith, Cond.instanceMethod yX5_failWith]
def wsL_law_r27 : List Cond := [Cond.selects RX5 yX5_failWith yX5_failWith, Cond.code yX5_failWith cX5_failWith 3 none, Cond.instanceMethod yX4_hasSides, Cond.selects RX4 yX4_hasSides yX4_hasSides, Cond.code yX4_hasSides cX4_hasSides 4 (some .boolean), Cond.methodLink RX5 60 yX5_removeRule, Cond.instanceMethod yX5_removeRule, Cond.selects RX5 yX5_removeRule yX5_removeRule, Cond.code yX5_removeRule cX5_removeRule 3 none, Cond.methodLink RX5 64 yX5_setWord, Cond.instanceMethod yX5_setWord, Cond.selects RX5 yX5_setWord yX5_setWord, Cond.code yX5_setWord cX5_setWord 3 none, Cond.methodLink RX5 77 yX5_setChoosing, Cond.instanceMethod yX5_setChoosing, Cond.selects RX5 yX5_setChoosing yX5_setChoosing, Cond.code yX5_setChoosing cX5_setChoosing 3 none, Cond.methodLink RL 83 yX11_fault, Cond.instanceMethod yX11_fault, Cond.selects RX11 yX11_fault yX11_fault, Cond.code yX11_fault cX11_fault 3 (some .int), Cond.fieldLink RX11 220 "FallingWordsModel" "reason" "I", Cond.fieldLink RX11 191 "FallingWordsModel" "cause" "I", Cond.methodLink RX11 223 yX11_faulty]
def wsL_law_r28 : List Cond := [Cond.instanceMethod yX11_faulty, Cond.selects RX11 yX11_faulty yX11_faulty, Cond.code yX11_faulty cX11_faulty 3 (some .int), Cond.fieldLink RX11 179 "FallingWordsModel" "at" "I", Cond.methodLink RX11 217 yX11_doesNext, Cond.instanceMethod yX11_doesNext, Cond.selects RX11 yX11_doesNext yX11_doesNext, Cond.code yX11_doesNext cX11_doesNext 3 (some .int), Cond.methodLink RX11 182 yX11_sign, Cond.instanceMethod yX11_sign, Cond.selects RX11 yX11_sign yX11_sign, Cond.code yX11_sign cX11_sign 1 (some .int), Cond.methodLink RX11 204 yX11_readsRule, Cond.instanceMethod yX11_readsRule, Cond.selects RX11 yX11_readsRule yX11_readsRule, Cond.code yX11_readsRule cX11_readsRule 6 (some .int), Cond.fieldLink RX11 185 "FallingWordsModel" "read" "I", Cond.fieldLink RX11 188 "FallingWordsModel" "readLength" "I", Cond.methodLink RX11 194 yX11_readsWord, Cond.instanceMethod yX11_readsWord, Cond.selects RX11 yX11_readsWord yX11_readsWord, Cond.code yX11_readsWord cX11_readsWord 1 none, Cond.methodLink RX11 197 yX11_takes, Cond.instanceMethod yX11_takes]
def wsL_law_r29 : List Cond := [Cond.selects RX11 yX11_takes yX11_takes, Cond.code yX11_takes cX11_takes 3 (some .boolean), Cond.methodLink RX11 201 yX11_says, Cond.instanceMethod yX11_says, Cond.selects RX11 yX11_says yX11_says, Cond.code yX11_says cX11_says 3 (some .int), Cond.methodLink RX11 207 yX11_readsDigit, Cond.instanceMethod yX11_readsDigit, Cond.selects RX11 yX11_readsDigit yX11_readsDigit, Cond.code yX11_readsDigit cX11_readsDigit 5 (some .int), Cond.methodLink RX11 211 yX11_readsSet, Cond.instanceMethod yX11_readsSet, Cond.selects RX11 yX11_readsSet yX11_readsSet, Cond.code yX11_readsSet cX11_readsSet 2 (some .int), Cond.methodLink RX11 214 yX11_readsDeed, Cond.instanceMethod yX11_readsDeed, Cond.selects RX11 yX11_readsDeed yX11_readsDeed, Cond.code yX11_readsDeed cX11_readsDeed 4 (some .int), Cond.methodLink RL 84 yX10_play, Cond.instanceMethod yX10_play, Cond.selects RX10 yX10_play yX10_play, Cond.code yX10_play cX10_play 1 (some .int), Cond.methodLink RL 87 yX11_play, Cond.instanceMethod yX11_play]
def wsL_law_r30 : List Cond := [Cond.selects RX11 yX11_play yX11_play, Cond.code yX11_play cX11_play 2 (some .int)]
def wsL_law : List Cond := (wsL_law_r1 ++ (wsL_law_r2 ++ (wsL_law_r3 ++ (wsL_law_r4 ++ (wsL_law_r5 ++ (wsL_law_r6 ++ (wsL_law_r7 ++ (wsL_law_r8 ++ (wsL_law_r9 ++ (wsL_law_r10 ++ (wsL_law_r11 ++ (wsL_law_r12 ++ (wsL_law_r13 ++ (wsL_law_r14 ++ (wsL_law_r15 ++ (wsL_law_r16 ++ (wsL_law_r17 ++ (wsL_law_r18 ++ (wsL_law_r19 ++ (wsL_law_r20 ++ (wsL_law_r21 ++ (wsL_law_r22 ++ (wsL_law_r23 ++ (wsL_law_r24 ++ (wsL_law_r25 ++ (wsL_law_r26 ++ (wsL_law_r27 ++ (wsL_law_r28 ++ (wsL_law_r29 ++ wsL_law_r30))))))))))))))))))))))))))))) ++ wsX100 ++ wsX110 ++ wsX60 ++ wsX00 ++ wsX30 ++ wsX20 ++ wsX10 ++ wsX80 ++ wsX50 ++ wsX40 ++ wsX70 ++ ([] : List Cond)
set_option maxRecDepth 20000 in
theorem wsL_law_in : ∀ w ∈ wsL_law, w ∈ lw_tbl := fun w h => (goodIn_p wsL_law [112, 115, 120, 126, 163, 212, 229, 257, 290, 321, 357, 789, 404, 408, 413, 417, 421, 428, 433, 437, 442, 446, 450, 876, 880, 884, 888, 891, 896, 455, 459, 900, 904, 463, 466, 469, 472, 477, 482, 908, 912, 915, 919, 923, 926, 929, 932, 486, 490, 494, 498, 501, 505, 508, 937, 941, 945, 950, 512, 516, 520, 524, 528, 532, 536, 545, 549, 553, 954, 958, 962, 966, 557, 971, 561, 975, 569, 574, 979, 580, 584, 587, 591, 596, 603, 606, 609, 983, 987, 991, 995, 999, 614, 1003, 618, 622, 626, 631, 638, 642, 649, 1007, 1011, 1015, 1019, 1023, 655, 659, 666, 670, 674, 1027, 1031, 1035, 679, 683, 687, 1039, 691, 696, 1043, 700, 704, 708, 1047, 713, 1051, 717, 721, 725, 729, 733, 736, 740, 744, 748, 752, 757, 761, 767, 773, 779, 1055, 1059, 1063, 1067, 1071, 1075, 1079, 1083, 1087, 1091, 1095, 784, 1099] (by decide +kernel) (by decide +kernel) w h).1
theorem inlX0 : ∀ w ∈ wsX00, w ∈ wsL_law := fun _ h => List.mem_append_left _ (List.mem_append_left _ (List.mem_append_left _ (List.mem_append_left _ (List.mem_append_left _ (List.mem_append_left _ (List.mem_append_left _ (List.mem_append_left _ (List.mem_append_right _ h))))))))
theorem inX0 : ∀ w ∈ wsX00, w ∈ lw_tbl := fun w h => wsL_law_in w (inlX0 w h)
theorem inlX1 : ∀ w ∈ wsX10, w ∈ wsL_law := fun _ h => List.mem_append_left _ (List.mem_append_left _ (List.mem_append_left _ (List.mem_append_left _ (List.mem_append_left _ (List.mem_append_right _ h)))))
theorem inX1 : ∀ w ∈ wsX10, w ∈ lw_tbl := fun w h => wsL_law_in w (inlX1 w h)
theorem inlX2 : ∀ w ∈ wsX20, w ∈ wsL_law := fun _ h => List.mem_append_left _ (List.mem_append_left _ (List.mem_append_left _ (List.mem_append_left _ (List.mem_append_left _ (List.mem_append_left _ (List.mem_append_right _ h))))))
theorem inX2 : ∀ w ∈ wsX20, w ∈ lw_tbl := fun w h => wsL_law_in w (inlX2 w h)
theorem inlX3 : ∀ w ∈ wsX30, w ∈ wsL_law := fun _ h => List.mem_append_left _ (List.mem_append_left _ (List.mem_append_left _ (List.mem_append_left _ (List.mem_append_left _ (List.mem_append_left _ (List.mem_append_left _ (List.mem_append_right _ h)))))))
theorem inX3 : ∀ w ∈ wsX30, w ∈ lw_tbl := fun w h => wsL_law_in w (inlX3 w h)
theorem inlX4 : ∀ w ∈ wsX40, w ∈ wsL_law := fun _ h => List.mem_append_left _ (List.mem_append_left _ (List.mem_append_right _ h))
theorem inX4 : ∀ w ∈ wsX40, w ∈ lw_tbl := fun w h => wsL_law_in w (inlX4 w h)
theorem inlX5 : ∀ w ∈ wsX50, w ∈ wsL_law := fun _ h => List.mem_append_left _ (List.mem_append_left _ (List.mem_append_left _ (List.mem_append_right _ h)))
theorem inX5 : ∀ w ∈ wsX50, w ∈ lw_tbl := fun w h => wsL_law_in w (inlX5 w h)
theorem inlX6 : ∀ w ∈ wsX60, w ∈ wsL_law := fun _ h => List.mem_append_left _ (List.mem_append_left _ (List.mem_append_left _ (List.mem_append_left _ (List.mem_append_left _ (List.mem_append_left _ (List.mem_append_left _ (List.mem_append_left _ (List.mem_append_left _ (List.mem_append_right _ h)))))))))
theorem inX6 : ∀ w ∈ wsX60, w ∈ lw_tbl := fun w h => wsL_law_in w (inlX6 w h)
theorem inlX7 : ∀ w ∈ wsX70, w ∈ wsL_law := fun _ h => List.mem_append_left _ (List.mem_append_right _ h)
theorem inX7 : ∀ w ∈ wsX70, w ∈ lw_tbl := fun w h => wsL_law_in w (inlX7 w h)
theorem inlX8 : ∀ w ∈ wsX80, w ∈ wsL_law := fun _ h => List.mem_append_left _ (List.mem_append_left _ (List.mem_append_left _ (List.mem_append_left _ (List.mem_append_right _ h))))
theorem inX8 : ∀ w ∈ wsX80, w ∈ lw_tbl := fun w h => wsL_law_in w (inlX8 w h)
theorem inX9 : ∀ w ∈ wsX90, w ∈ lw_tbl := by decide +kernel
theorem inlX10 : ∀ w ∈ wsX100, w ∈ wsL_law := fun _ h => List.mem_append_left _ (List.mem_append_left _ (List.mem_append_left _ (List.mem_append_left _ (List.mem_append_left _ (List.mem_append_left _ (List.mem_append_left _ (List.mem_append_left _ (List.mem_append_left _ (List.mem_append_left _ (List.mem_append_left _ (List.mem_append_right _ h)))))))))))
theorem inX10 : ∀ w ∈ wsX100, w ∈ lw_tbl := fun w h => wsL_law_in w (inlX10 w h)
theorem inlX11 : ∀ w ∈ wsX110, w ∈ wsL_law := fun _ h => List.mem_append_left _ (List.mem_append_left _ (List.mem_append_left _ (List.mem_append_left _ (List.mem_append_left _ (List.mem_append_left _ (List.mem_append_left _ (List.mem_append_left _ (List.mem_append_left _ (List.mem_append_left _ (List.mem_append_right _ h))))))))))
theorem inX11 : ∀ w ∈ wsX110, w ∈ lw_tbl := fun w h => wsL_law_in w (inlX11 w h)
theorem inJ9 : ∀ w ∈ wsJ90, w ∈ lw_tbl := by decide +kernel
theorem inJ10 : ∀ w ∈ wsJ100, w ∈ lw_tbl := by decide +kernel
theorem inJ7 : ∀ w ∈ wsJ70, w ∈ lw_tbl := by decide +kernel
set_option maxRecDepth 20000 in
theorem ggX0_init_X6_init : GoodIn wsX0_init wsX6_init := goodIn_r _ [9, 10, 2, 3, 11, 12, 13, 14, 15, 16, 17, 18, 19, 20, 21, 22, 23, 24, 25, 26, 27, 28, 29, 30, 31, 32, 33, 34, 43, 44, 45, 46, 47, 48, 37, 38, 39, 40, 41, 42, 49, 50, 51] (by decide +kernel) (by decide +kernel)
set_option maxRecDepth 20000 in
theorem gX0_init_X6_init_n17 : GoodIn wsX0_init (wsX6_init) := ggX0_init_X6_init
theorem dX0_init_0 : decode cX0_init 0 = .ok (.aload_n 0, 1) := by decide +kernel
theorem dX0_init_1 : decode cX0_init 1 = .ok (.invokespecial 3, 3) := by decide +kernel
theorem dX0_init_4 : decode cX0_init 4 = .ok (.aload_n 0, 1) := by decide +kernel
theorem dX0_init_5 : decode cX0_init 5 = .ok (.iconst 4, 1) := by decide +kernel
theorem dX0_init_6 : decode cX0_init 6 = .ok (.anewarray 9, 3) := by decide +kernel
theorem dX0_init_9 : decode cX0_init 9 = .ok (.putfield 11, 3) := by decide +kernel
theorem dX0_init_12 : decode cX0_init 12 = .ok (.iconst 0, 1) := by decide +kernel
theorem dX0_init_13 : decode cX0_init 13 = .ok (.istore_n 1, 1) := by decide +kernel
theorem dX0_init_14 : decode cX0_init 14 = .ok (.iload_n 1, 1) := by decide +kernel
theorem dX0_init_15 : decode cX0_init 15 = .ok (.iconst 4, 1) := by decide +kernel
theorem dX0_init_16 : decode cX0_init 16 = .ok (.if_icmp .ge 22, 3) := by decide +kernel
theorem dX0_init_19 : decode cX0_init 19 = .ok (.aload_n 0, 1) := by decide +kernel
theorem dX0_init_20 : decode cX0_init 20 = .ok (.getfield 11, 3) := by decide +kernel
theorem dX0_init_23 : decode cX0_init 23 = .ok (.iload_n 1, 1) := by decide +kernel
theorem dX0_init_24 : decode cX0_init 24 = .ok (.new 9, 3) := by decide +kernel
theorem dX0_init_27 : decode cX0_init 27 = .ok (.dup, 1) := by decide +kernel
theorem dX0_init_28 : decode cX0_init 28 = .ok (.invokespecial 17, 3) := by decide +kernel
theorem dX0_init_31 : decode cX0_init 31 = .ok (.aastore, 1) := by decide +kernel
theorem dX0_init_32 : decode cX0_init 32 = .ok (.iinc 1 1, 3) := by decide +kernel
theorem dX0_init_35 : decode cX0_init 35 = .ok (.goto (-21), 3) := by decide +kernel
theorem dX0_init_38 : decode cX0_init 38 = .ok (.return_, 1) := by decide +kernel
set_option maxRecDepth 20000 in
theorem ggX0_keep_X0_forgetOldest : GoodIn wsX0_keep wsX0_forgetOldest := goodIn_r _ [7, 2, 1, 40, 41] (by decide +kernel) (by decide +kernel)
set_option maxRecDepth 20000 in
theorem gX0_keep_X0_forgetOldest : GoodIn wsX0_keep (wsV RX0 22 RX0 yX0_forgetOldest wsX0_forgetOldest) := goodIn_app (goodIn_of _ (by decide +kernel)) ggX0_keep_X0_forgetOldest
set_option maxRecDepth 20000 in
theorem ggX0_keep_X6_takeOver : GoodIn wsX0_keep wsX6_takeOver := goodIn_r _ [11, 12, 13, 14, 15, 16, 17, 18, 19, 20, 21, 22, 23, 24, 25, 26, 27, 28, 29, 30, 31, 32, 33, 34, 35, 36, 37, 38, 39, 42, 43, 44, 45, 46, 47, 48, 49, 50, 51, 52, 53, 54, 55, 56] (by decide +kernel) (by decide +kernel)
set_option maxRecDepth 20000 in
theorem gX0_keep_X6_takeOver_n25 : GoodIn wsX0_keep (wsX6_takeOver) := ggX0_keep_X6_takeOver
theorem dX0_keep_0 : decode cX0_keep 0 = .ok (.aload_n 0, 1) := by decide +kernel
theorem dX0_keep_1 : decode cX0_keep 1 = .ok (.getfield 18, 3) := by decide +kernel
theorem dX0_keep_4 : decode cX0_keep 4 = .ok (.iconst 4, 1) := by decide +kernel
theorem dX0_keep_5 : decode cX0_keep 5 = .ok (.if_icmp .lt 7, 3) := by decide +kernel
theorem dX0_keep_8 : decode cX0_keep 8 = .ok (.aload_n 0, 1) := by decide +kernel
theorem dX0_keep_9 : decode cX0_keep 9 = .ok (.invokevirtual 22, 3) := by decide +kernel
theorem dX0_keep_12 : decode cX0_keep 12 = .ok (.aload_n 0, 1) := by decide +kernel
theorem dX0_keep_13 : decode cX0_keep 13 = .ok (.getfield 11, 3) := by decide +kernel
theorem dX0_keep_16 : decode cX0_keep 16 = .ok (.aload_n 0, 1) := by decide +kernel
theorem dX0_keep_17 : decode cX0_keep 17 = .ok (.getfield 18, 3) := by decide +kernel
theorem dX0_keep_20 : decode cX0_keep 20 = .ok (.aaload, 1) := by decide +kernel
theorem dX0_keep_21 : decode cX0_keep 21 = .ok (.aload_n 1, 1) := by decide +kernel
theorem dX0_keep_22 : decode cX0_keep 22 = .ok (.invokevirtual 25, 3) := by decide +kernel
theorem dX0_keep_25 : decode cX0_keep 25 = .ok (.aload_n 0, 1) := by decide +kernel
theorem dX0_keep_26 : decode cX0_keep 26 = .ok (.dup, 1) := by decide +kernel
theorem dX0_keep_27 : decode cX0_keep 27 = .ok (.getfield 18, 3) := by decide +kernel
theorem dX0_keep_30 : decode cX0_keep 30 = .ok (.iconst 1, 1) := by decide +kernel
theorem dX0_keep_31 : decode cX0_keep 31 = .ok (.iadd, 1) := by decide +kernel
theorem dX0_keep_32 : decode cX0_keep 32 = .ok (.putfield 18, 3) := by decide +kernel
theorem dX0_keep_35 : decode cX0_keep 35 = .ok (.return_, 1) := by decide +kernel
theorem dX0_forgetOldest_0 : decode cX0_forgetOldest 0 = .ok (.aload_n 0, 1) := by decide +kernel
theorem dX0_forgetOldest_1 : decode cX0_forgetOldest 1 = .ok (.getfield 11, 3) := by decide +kernel
theorem dX0_forgetOldest_4 : decode cX0_forgetOldest 4 = .ok (.iconst 0, 1) := by decide +kernel
theorem dX0_forgetOldest_5 : decode cX0_forgetOldest 5 = .ok (.aaload, 1) := by decide +kernel
theorem dX0_forgetOldest_6 : decode cX0_forgetOldest 6 = .ok (.astore_n 1, 1) := by decide +kernel
theorem dX0_forgetOldest_7 : decode cX0_forgetOldest 7 = .ok (.iconst 0, 1) := by decide +kernel
theorem dX0_forgetOldest_8 : decode cX0_forgetOldest 8 = .ok (.istore_n 2, 1) := by decide +kernel
theorem dX0_forgetOldest_9 : decode cX0_forgetOldest 9 = .ok (.iload_n 2, 1) := by decide +kernel
theorem dX0_forgetOldest_10 : decode cX0_forgetOldest 10 = .ok (.iconst 1, 1) := by decide +kernel
theorem dX0_forgetOldest_11 : decode cX0_forgetOldest 11 = .ok (.iadd, 1) := by decide +kernel
theorem dX0_forgetOldest_12 : decode cX0_forgetOldest 12 = .ok (.iconst 4, 1) := by decide +kernel
theorem dX0_forgetOldest_13 : decode cX0_forgetOldest 13 = .ok (.if_icmp .ge 23, 3) := by decide +kernel
theorem dX0_forgetOldest_16 : decode cX0_forgetOldest 16 = .ok (.aload_n 0, 1) := by decide +kernel
theorem dX0_forgetOldest_17 : decode cX0_forgetOldest 17 = .ok (.getfield 11, 3) := by decide +kernel
theorem dX0_forgetOldest_20 : decode cX0_forgetOldest 20 = .ok (.iload_n 2, 1) := by decide +kernel
theorem dX0_forgetOldest_21 : decode cX0_forgetOldest 21 = .ok (.aload_n 0, 1) := by decide +kernel
theorem dX0_forgetOldest_22 : decode cX0_forgetOldest 22 = .ok (.getfield 11, 3) := by decide +kernel
theorem dX0_forgetOldest_25 : decode cX0_forgetOldest 25 = .ok (.iload_n 2, 1) := by decide +kernel
theorem dX0_forgetOldest_26 : decode cX0_forgetOldest 26 = .ok (.iconst 1, 1) := by decide +kernel
theorem dX0_forgetOldest_27 : decode cX0_forgetOldest 27 = .ok (.iadd, 1) := by decide +kernel
theorem dX0_forgetOldest_28 : decode cX0_forgetOldest 28 = .ok (.aaload, 1) := by decide +kernel
theorem dX0_forgetOldest_29 : decode cX0_forgetOldest 29 = .ok (.aastore, 1) := by decide +kernel
theorem dX0_forgetOldest_30 : decode cX0_forgetOldest 30 = .ok (.iinc 2 1, 3) := by decide +kernel
theorem dX0_forgetOldest_33 : decode cX0_forgetOldest 33 = .ok (.goto (-24), 3) := by decide +kernel
theorem dX0_forgetOldest_36 : decode cX0_forgetOldest 36 = .ok (.aload_n 0, 1) := by decide +kernel
theorem dX0_forgetOldest_37 : decode cX0_forgetOldest 37 = .ok (.getfield 11, 3) := by decide +kernel
theorem dX0_forgetOldest_40 : decode cX0_forgetOldest 40 = .ok (.iconst 3, 1) := by decide +kernel
theorem dX0_forgetOldest_41 : decode cX0_forgetOldest 41 = .ok (.aload_n 1, 1) := by decide +kernel
theorem dX0_forgetOldest_42 : decode cX0_forgetOldest 42 = .ok (.aastore, 1) := by decide +kernel
theorem dX0_forgetOldest_43 : decode cX0_forgetOldest 43 = .ok (.aload_n 0, 1) := by decide +kernel
theorem dX0_forgetOldest_44 : decode cX0_forgetOldest 44 = .ok (.dup, 1) := by decide +kernel
theorem dX0_forgetOldest_45 : decode cX0_forgetOldest 45 = .ok (.getfield 18, 3) := by decide +kernel
theorem dX0_forgetOldest_48 : decode cX0_forgetOldest 48 = .ok (.iconst 1, 1) := by decide +kernel
theorem dX0_forgetOldest_49 : decode cX0_forgetOldest 49 = .ok (.isub, 1) := by decide +kernel
theorem dX0_forgetOldest_50 : decode cX0_forgetOldest 50 = .ok (.putfield 18, 3) := by decide +kernel
theorem dX0_forgetOldest_53 : decode cX0_forgetOldest 53 = .ok (.return_, 1) := by decide +kernel
set_option maxRecDepth 20000 in
theorem ggX0_restoreTo_X6_takeOver : GoodIn wsX0_restoreTo wsX6_takeOver := goodIn_r _ [6, 7, 8, 9, 10, 11, 12, 13, 14, 15, 16, 17, 18, 19, 20, 21, 22, 23, 24, 25, 26, 27, 28, 29, 30, 31, 32, 33, 34, 37, 38, 39, 40, 41, 42, 43, 44, 45, 46, 47, 48, 49, 50, 51] (by decide +kernel) (by decide +kernel)
set_option maxRecDepth 20000 in
theorem gX0_restoreTo_X6_takeOver_n25 : GoodIn wsX0_restoreTo (wsX6_takeOver) := ggX0_restoreTo_X6_takeOver
theorem dX0_restoreTo_0 : decode cX0_restoreTo 0 = .ok (.aload_n 0, 1) := by decide +kernel
theorem dX0_restoreTo_1 : decode cX0_restoreTo 1 = .ok (.getfield 18, 3) := by decide +kernel
theorem dX0_restoreTo_4 : decode cX0_restoreTo 4 = .ok (.ifCond .le 26, 3) := by decide +kernel
theorem dX0_restoreTo_7 : decode cX0_restoreTo 7 = .ok (.aload_n 0, 1) := by decide +kernel
theorem dX0_restoreTo_8 : decode cX0_restoreTo 8 = .ok (.dup, 1) := by decide +kernel
theorem dX0_restoreTo_9 : decode cX0_restoreTo 9 = .ok (.getfield 18, 3) := by decide +kernel
theorem dX0_restoreTo_12 : decode cX0_restoreTo 12 = .ok (.iconst 1, 1) := by decide +kernel
theorem dX0_restoreTo_13 : decode cX0_restoreTo 13 = .ok (.isub, 1) := by decide +kernel
theorem dX0_restoreTo_14 : decode cX0_restoreTo 14 = .ok (.putfield 18, 3) := by decide +kernel
theorem dX0_restoreTo_17 : decode cX0_restoreTo 17 = .ok (.aload_n 1, 1) := by decide +kernel
theorem dX0_restoreTo_18 : decode cX0_restoreTo 18 = .ok (.aload_n 0, 1) := by decide +kernel
theorem dX0_restoreTo_19 : decode cX0_restoreTo 19 = .ok (.getfield 11, 3) := by decide +kernel
theorem dX0_restoreTo_22 : decode cX0_restoreTo 22 = .ok (.aload_n 0, 1) := by decide +kernel
theorem dX0_restoreTo_23 : decode cX0_restoreTo 23 = .ok (.getfield 18, 3) := by decide +kernel
theorem dX0_restoreTo_26 : decode cX0_restoreTo 26 = .ok (.aaload, 1) := by decide +kernel
theorem dX0_restoreTo_27 : decode cX0_restoreTo 27 = .ok (.invokevirtual 25, 3) := by decide +kernel
theorem dX0_restoreTo_30 : decode cX0_restoreTo 30 = .ok (.return_, 1) := by decide +kernel
theorem dX1_init_0 : decode cX1_init 0 = .ok (.aload_n 0, 1) := by decide +kernel
theorem dX1_init_1 : decode cX1_init 1 = .ok (.invokespecial 3, 3) := by decide +kernel
theorem dX1_init_4 : decode cX1_init 4 = .ok (.return_, 1) := by decide +kernel
set_option maxRecDepth 20000 in
theorem ggX1_find_X1_isOverlap : GoodIn wsX1_find wsX1_isOverlap := goodIn_r _ [5, 6, 7, 8, 9, 10, 11, 12, 13, 14, 15, 16, 17, 4, 18, 19, 20, 21, 22, 23, 24, 25, 26, 27, 28, 29, 30, 31, 32, 33, 34, 35, 36, 37, 38, 39, 40] (by decide +kernel) (by decide +kernel)
set_option maxRecDepth 20000 in
theorem gX1_find_X1_isOverlap : GoodIn wsX1_find (wsV RX1 11 RX1 yX1_isOverlap wsX1_isOverlap) := goodIn_app (goodIn_of _ (by decide +kernel)) ggX1_find_X1_isOverlap
theorem dX1_find_0 : decode cX1_find 0 = .ok (.iconst 0, 1) := by decide +kernel
theorem dX1_find_1 : decode cX1_find 1 = .ok (.istore_n 3, 1) := by decide +kernel
theorem dX1_find_2 : decode cX1_find 2 = .ok (.iconst 0, 1) := by decide +kernel
theorem dX1_find_3 : decode cX1_find 3 = .ok (.istore 4, 2) := by decide +kernel
theorem dX1_find_5 : decode cX1_find 5 = .ok (.iload 4, 2) := by decide +kernel
theorem dX1_find_7 : decode cX1_find 7 = .ok (.sipush 400, 3) := by decide +kernel
theorem dX1_find_10 : decode cX1_find 10 = .ok (.if_icmp .ge 29, 3) := by decide +kernel
theorem dX1_find_13 : decode cX1_find 13 = .ok (.aload_n 0, 1) := by decide +kernel
theorem dX1_find_14 : decode cX1_find 14 = .ok (.aload_n 1, 1) := by decide +kernel
theorem dX1_find_15 : decode cX1_find 15 = .ok (.iload 4, 2) := by decide +kernel
theorem dX1_find_17 : decode cX1_find 17 = .ok (.invokevirtual 11, 3) := by decide +kernel
theorem dX1_find_20 : decode cX1_find 20 = .ok (.ifCond .eq 13, 3) := by decide +kernel
theorem dX1_find_23 : decode cX1_find 23 = .ok (.iload_n 3, 1) := by decide +kernel
theorem dX1_find_24 : decode cX1_find 24 = .ok (.iload_n 2, 1) := by decide +kernel
theorem dX1_find_25 : decode cX1_find 25 = .ok (.if_icmp .ne 5, 3) := by decide +kernel
theorem dX1_find_28 : decode cX1_find 28 = .ok (.iconst 1, 1) := by decide +kernel
theorem dX1_find_29 : decode cX1_find 29 = .ok (.ireturn, 1) := by decide +kernel
theorem dX1_find_30 : decode cX1_find 30 = .ok (.iinc 3 1, 3) := by decide +kernel
theorem dX1_find_33 : decode cX1_find 33 = .ok (.iinc 4 1, 3) := by decide +kernel
theorem dX1_find_36 : decode cX1_find 36 = .ok (.goto (-31), 3) := by decide +kernel
theorem dX1_find_39 : decode cX1_find 39 = .ok (.iconst 0, 1) := by decide +kernel
theorem dX1_find_40 : decode cX1_find 40 = .ok (.ireturn, 1) := by decide +kernel
set_option maxRecDepth 20000 in
theorem ggX1_findParting_X1_isOverlap : GoodIn wsX1_findParting wsX1_isOverlap := goodIn_r _ [5, 6, 7, 8, 9, 10, 11, 12, 13, 14, 15, 16, 17, 4, 18, 19, 20, 21, 22, 23, 24, 25, 26, 27, 28, 78, 79, 80, 81, 82, 83, 84, 85, 86, 87, 88, 89] (by decide +kernel) (by decide +kernel)
set_option maxRecDepth 20000 in
theorem gX1_findParting_X1_isOverlap : GoodIn wsX1_findParting (wsV RX1 11 RX1 yX1_isOverlap wsX1_isOverlap) := goodIn_app (goodIn_of _ (by decide +kernel)) ggX1_findParting_X1_isOverlap
set_option maxRecDepth 20000 in
theorem ggX1_findParting_X1_verdict : GoodIn wsX1_findParting wsX1_verdict := goodIn_r _ [32, 33, 34, 35, 36, 37, 4, 38, 9, 6, 39, 11, 40, 41, 42, 43, 27, 22, 20, 23, 19, 21, 44, 45, 46, 47, 48, 49, 50, 51, 52, 53, 54, 55, 56, 57, 58, 59, 14, 60, 24, 25, 26, 28, 61, 62, 63, 64, 65, 66, 67, 68, 69, 70, 71, 7, 8, 72, 73, 74, 75, 76, 77, 90, 91, 92, 93, 94, 78, 79, 80, 81, 82, 83, 84, 85, 86, 87, 88, 89] (by decide +kernel) (by decide +kernel)
set_option maxRecDepth 20000 in
theorem gX1_findParting_X1_verdict : GoodIn wsX1_findParting (wsV RX1 21 RX1 yX1_verdict wsX1_verdict) := goodIn_app (goodIn_of _ (by decide +kernel)) ggX1_findParting_X1_verdict
theorem dX1_findParting_0 : decode cX1_findParting 0 = .ok (.iconst 0, 1) := by decide +kernel
theorem dX1_findParting_1 : decode cX1_findParting 1 = .ok (.istore_n 3, 1) := by decide +kernel
theorem dX1_findParting_2 : decode cX1_findParting 2 = .ok (.iload_n 3, 1) := by decide +kernel
theorem dX1_findParting_3 : decode cX1_findParting 3 = .ok (.sipush 400, 3) := by decide +kernel
theorem dX1_findParting_6 : decode cX1_findParting 6 = .ok (.if_icmp .ge 33, 3) := by decide +kernel
theorem dX1_findParting_9 : decode cX1_findParting 9 = .ok (.aload_n 0, 1) := by decide +kernel
theorem dX1_findParting_10 : decode cX1_findParting 10 = .ok (.aload_n 1, 1) := by decide +kernel
theorem dX1_findParting_11 : decode cX1_findParting 11 = .ok (.getfield 15, 3) := by decide +kernel
theorem dX1_findParting_14 : decode cX1_findParting 14 = .ok (.iload_n 3, 1) := by decide +kernel
theorem dX1_findParting_15 : decode cX1_findParting 15 = .ok (.invokevirtual 11, 3) := by decide +kernel
theorem dX1_findParting_18 : decode cX1_findParting 18 = .ok (.ifCond .eq 15, 3) := by decide +kernel
theorem dX1_findParting_21 : decode cX1_findParting 21 = .ok (.aload_n 0, 1) := by decide +kernel
theorem dX1_findParting_22 : decode cX1_findParting 22 = .ok (.aload_n 1, 1) := by decide +kernel
theorem dX1_findParting_23 : decode cX1_findParting 23 = .ok (.aload_n 2, 1) := by decide +kernel
theorem dX1_findParting_24 : decode cX1_findParting 24 = .ok (.invokevirtual 21, 3) := by decide +kernel
theorem dX1_findParting_27 : decode cX1_findParting 27 = .ok (.iconst 1, 1) := by decide +kernel
theorem dX1_findParting_28 : decode cX1_findParting 28 = .ok (.if_icmp .ne 5, 3) := by decide +kernel
theorem dX1_findParting_31 : decode cX1_findParting 31 = .ok (.iconst 1, 1) := by decide +kernel
theorem dX1_findParting_32 : decode cX1_findParting 32 = .ok (.ireturn, 1) := by decide +kernel
theorem dX1_findParting_33 : decode cX1_findParting 33 = .ok (.iinc 3 1, 3) := by decide +kernel
theorem dX1_findParting_36 : decode cX1_findParting 36 = .ok (.goto (-34), 3) := by decide +kernel
theorem dX1_findParting_39 : decode cX1_findParting 39 = .ok (.iconst 0, 1) := by decide +kernel
theorem dX1_findParting_40 : decode cX1_findParting 40 = .ok (.ireturn, 1) := by decide +kernel
set_option maxRecDepth 20000 in
theorem ggX1_howMany_X1_isOverlap : GoodIn wsX1_howMany wsX1_isOverlap := goodIn_r _ [5, 6, 7, 8, 9, 10, 11, 12, 13, 14, 15, 16, 17, 4, 18, 19, 20, 21, 22, 23, 24, 25, 26, 27, 28, 29, 30, 31, 32, 33, 34, 35, 36, 37, 38, 39, 40] (by decide +kernel) (by decide +kernel)
set_option maxRecDepth 20000 in
theorem gX1_howMany_X1_isOverlap : GoodIn wsX1_howMany (wsV RX1 11 RX1 yX1_isOverlap wsX1_isOverlap) := goodIn_app (goodIn_of _ (by decide +kernel)) ggX1_howMany_X1_isOverlap
theorem dX1_howMany_0 : decode cX1_howMany 0 = .ok (.iconst 0, 1) := by decide +kernel
theorem dX1_howMany_1 : decode cX1_howMany 1 = .ok (.istore_n 2, 1) := by decide +kernel
theorem dX1_howMany_2 : decode cX1_howMany 2 = .ok (.iconst 0, 1) := by decide +kernel
theorem dX1_howMany_3 : decode cX1_howMany 3 = .ok (.istore_n 3, 1) := by decide +kernel
theorem dX1_howMany_4 : decode cX1_howMany 4 = .ok (.iload_n 3, 1) := by decide +kernel
theorem dX1_howMany_5 : decode cX1_howMany 5 = .ok (.sipush 400, 3) := by decide +kernel
theorem dX1_howMany_8 : decode cX1_howMany 8 = .ok (.if_icmp .ge 21, 3) := by decide +kernel
theorem dX1_howMany_11 : decode cX1_howMany 11 = .ok (.aload_n 0, 1) := by decide +kernel
theorem dX1_howMany_12 : decode cX1_howMany 12 = .ok (.aload_n 1, 1) := by decide +kernel
theorem dX1_howMany_13 : decode cX1_howMany 13 = .ok (.iload_n 3, 1) := by decide +kernel
theorem dX1_howMany_14 : decode cX1_howMany 14 = .ok (.invokevirtual 11, 3) := by decide +kernel
theorem dX1_howMany_17 : decode cX1_howMany 17 = .ok (.ifCond .eq 6, 3) := by decide +kernel
theorem dX1_howMany_20 : decode cX1_howMany 20 = .ok (.iinc 2 1, 3) := by decide +kernel
theorem dX1_howMany_23 : decode cX1_howMany 23 = .ok (.iinc 3 1, 3) := by decide +kernel
theorem dX1_howMany_26 : decode cX1_howMany 26 = .ok (.goto (-22), 3) := by decide +kernel
theorem dX1_howMany_29 : decode cX1_howMany 29 = .ok (.iload_n 2, 1) := by decide +kernel
theorem dX1_howMany_30 : decode cX1_howMany 30 = .ok (.ireturn, 1) := by decide +kernel
set_option maxRecDepth 20000 in
theorem ggX1_howManyAre_X1_isOverlap : GoodIn wsX1_howManyAre wsX1_isOverlap := goodIn_r _ [5, 6, 7, 8, 9, 10, 11, 12, 13, 14, 15, 16, 17, 4, 18, 19, 20, 21, 22, 23, 24, 25, 26, 27, 28, 78, 79, 80, 81, 82, 83, 84, 85, 86, 87, 88, 89] (by decide +kernel) (by decide +kernel)
set_option maxRecDepth 20000 in
theorem gX1_howManyAre_X1_isOverlap : GoodIn wsX1_howManyAre (wsV RX1 11 RX1 yX1_isOverlap wsX1_isOverlap) := goodIn_app (goodIn_of _ (by decide +kernel)) ggX1_howManyAre_X1_isOverlap
set_option maxRecDepth 20000 in
theorem ggX1_howManyAre_X1_verdict : GoodIn wsX1_howManyAre wsX1_verdict := goodIn_r _ [32, 33, 34, 35, 36, 37, 4, 38, 9, 6, 39, 11, 40, 41, 42, 43, 27, 22, 20, 23, 19, 21, 44, 45, 46, 47, 48, 49, 50, 51, 52, 53, 54, 55, 56, 57, 58, 59, 14, 60, 24, 25, 26, 28, 61, 62, 63, 64, 65, 66, 67, 68, 69, 70, 71, 7, 8, 72, 73, 74, 75, 76, 77, 90, 91, 92, 93, 94, 78, 79, 80, 81, 82, 83, 84, 85, 86, 87, 88, 89] (by decide +kernel) (by decide +kernel)
set_option maxRecDepth 20000 in
theorem gX1_howManyAre_X1_verdict : GoodIn wsX1_howManyAre (wsV RX1 21 RX1 yX1_verdict wsX1_verdict) := goodIn_app (goodIn_of _ (by decide +kernel)) ggX1_howManyAre_X1_verdict
theorem dX1_howManyAre_0 : decode cX1_howManyAre 0 = .ok (.iconst 0, 1) := by decide +kernel
theorem dX1_howManyAre_1 : decode cX1_howManyAre 1 = .ok (.istore 4, 2) := by decide +kernel
theorem dX1_howManyAre_3 : decode cX1_howManyAre 3 = .ok (.iconst 0, 1) := by decide +kernel
theorem dX1_howManyAre_4 : decode cX1_howManyAre 4 = .ok (.istore 5, 2) := by decide +kernel
theorem dX1_howManyAre_6 : decode cX1_howManyAre 6 = .ok (.iload 5, 2) := by decide +kernel
theorem dX1_howManyAre_8 : decode cX1_howManyAre 8 = .ok (.sipush 400, 3) := by decide +kernel
theorem dX1_howManyAre_11 : decode cX1_howManyAre 11 = .ok (.if_icmp .ge 35, 3) := by decide +kernel
theorem dX1_howManyAre_14 : decode cX1_howManyAre 14 = .ok (.aload_n 0, 1) := by decide +kernel
theorem dX1_howManyAre_15 : decode cX1_howManyAre 15 = .ok (.aload_n 2, 1) := by decide +kernel
theorem dX1_howManyAre_16 : decode cX1_howManyAre 16 = .ok (.getfield 15, 3) := by decide +kernel
theorem dX1_howManyAre_19 : decode cX1_howManyAre 19 = .ok (.iload 5, 2) := by decide +kernel
theorem dX1_howManyAre_21 : decode cX1_howManyAre 21 = .ok (.invokevirtual 11, 3) := by decide +kernel
theorem dX1_howManyAre_24 : decode cX1_howManyAre 24 = .ok (.ifCond .eq 16, 3) := by decide +kernel
theorem dX1_howManyAre_27 : decode cX1_howManyAre 27 = .ok (.aload_n 0, 1) := by decide +kernel
theorem dX1_howManyAre_28 : decode cX1_howManyAre 28 = .ok (.aload_n 2, 1) := by decide +kernel
theorem dX1_howManyAre_29 : decode cX1_howManyAre 29 = .ok (.aload_n 3, 1) := by decide +kernel
theorem dX1_howManyAre_30 : decode cX1_howManyAre 30 = .ok (.invokevirtual 21, 3) := by decide +kernel
theorem dX1_howManyAre_33 : decode cX1_howManyAre 33 = .ok (.iload_n 1, 1) := by decide +kernel
theorem dX1_howManyAre_34 : decode cX1_howManyAre 34 = .ok (.if_icmp .ne 6, 3) := by decide +kernel
theorem dX1_howManyAre_37 : decode cX1_howManyAre 37 = .ok (.iinc 4 1, 3) := by decide +kernel
theorem dX1_howManyAre_40 : decode cX1_howManyAre 40 = .ok (.iinc 5 1, 3) := by decide +kernel
theorem dX1_howManyAre_43 : decode cX1_howManyAre 43 = .ok (.goto (-37), 3) := by decide +kernel
theorem dX1_howManyAre_46 : decode cX1_howManyAre 46 = .ok (.iload 4, 2) := by decide +kernel
theorem dX1_howManyAre_48 : decode cX1_howManyAre 48 = .ok (.ireturn, 1) := by decide +kernel
set_option maxRecDepth 20000 in
theorem ggX1_isOverlap_X4_contains : GoodIn wsX1_isOverlap wsX4_contains := goodIn_r _ [8, 9, 31, 32, 33, 34, 35, 36] (by decide +kernel) (by decide +kernel)
set_option maxRecDepth 20000 in
theorem gX1_isOverlap_X4_contains_n35 : GoodIn wsX1_isOverlap (wsX4_contains) := ggX1_isOverlap_X4_contains
set_option maxRecDepth 20000 in
theorem ggX1_isOverlap_X1_coveredWord : GoodIn wsX1_isOverlap wsX1_coveredWord := goodIn_r _ [14, 1, 2, 15, 16, 17, 31, 32, 33, 34, 35, 36, 25, 26, 27, 28, 29, 30] (by decide +kernel) (by decide +kernel)
set_option maxRecDepth 20000 in
theorem gX1_isOverlap_X1_coveredWord : GoodIn wsX1_isOverlap (wsV RX1 45 RX1 yX1_coveredWord wsX1_coveredWord) := goodIn_app (goodIn_of _ (by decide +kernel)) ggX1_isOverlap_X1_coveredWord
set_option maxRecDepth 20000 in
theorem ggX1_isOverlap_X9_lengthOf : GoodIn wsX1_isOverlap wsX9_lengthOf := goodIn_r _ [19] (by decide +kernel) (by decide +kernel)
set_option maxRecDepth 20000 in
theorem gX1_isOverlap_X9_lengthOf_n52 : GoodIn wsX1_isOverlap (wsX9_lengthOf) := ggX1_isOverlap_X9_lengthOf
set_option maxRecDepth 20000 in
theorem ggX1_isOverlap_X4_appliesAt : GoodIn wsX1_isOverlap wsX4_appliesAt := goodIn_r _ [22, 23, 24, 31, 32, 33, 34, 35, 36] (by decide +kernel) (by decide +kernel)
set_option maxRecDepth 20000 in
theorem gX1_isOverlap_X4_appliesAt_n58 : GoodIn wsX1_isOverlap (wsX4_appliesAt) := ggX1_isOverlap_X4_appliesAt
theorem dX1_isOverlap_0 : decode cX1_isOverlap 0 = .ok (.aload_n 0, 1) := by decide +kernel
theorem dX1_isOverlap_1 : decode cX1_isOverlap 1 = .ok (.iload_n 2, 1) := by decide +kernel
theorem dX1_isOverlap_2 : decode cX1_isOverlap 2 = .ok (.bipush 40, 2) := by decide +kernel
theorem dX1_isOverlap_4 : decode cX1_isOverlap 4 = .ok (.idiv, 1) := by decide +kernel
theorem dX1_isOverlap_5 : decode cX1_isOverlap 5 = .ok (.putfield 25, 3) := by decide +kernel
theorem dX1_isOverlap_8 : decode cX1_isOverlap 8 = .ok (.aload_n 0, 1) := by decide +kernel
theorem dX1_isOverlap_9 : decode cX1_isOverlap 9 = .ok (.iload_n 2, 1) := by decide +kernel
theorem dX1_isOverlap_10 : decode cX1_isOverlap 10 = .ok (.iconst 4, 1) := by decide +kernel
theorem dX1_isOverlap_11 : decode cX1_isOverlap 11 = .ok (.idiv, 1) := by decide +kernel
theorem dX1_isOverlap_12 : decode cX1_isOverlap 12 = .ok (.bipush 10, 2) := by decide +kernel
theorem dX1_isOverlap_14 : decode cX1_isOverlap 14 = .ok (.irem, 1) := by decide +kernel
theorem dX1_isOverlap_15 : decode cX1_isOverlap 15 = .ok (.putfield 29, 3) := by decide +kernel
theorem dX1_isOverlap_18 : decode cX1_isOverlap 18 = .ok (.aload_n 0, 1) := by decide +kernel
theorem dX1_isOverlap_19 : decode cX1_isOverlap 19 = .ok (.iload_n 2, 1) := by decide +kernel
theorem dX1_isOverlap_20 : decode cX1_isOverlap 20 = .ok (.iconst 4, 1) := by decide +kernel
theorem dX1_isOverlap_21 : decode cX1_isOverlap 21 = .ok (.irem, 1) := by decide +kernel
theorem dX1_isOverlap_22 : decode cX1_isOverlap 22 = .ok (.putfield 32, 3) := by decide +kernel
theorem dX1_isOverlap_25 : decode cX1_isOverlap 25 = .ok (.aload_n 1, 1) := by decide +kernel
theorem dX1_isOverlap_26 : decode cX1_isOverlap 26 = .ok (.aload_n 0, 1) := by decide +kernel
theorem dX1_isOverlap_27 : decode cX1_isOverlap 27 = .ok (.getfield 25, 3) := by decide +kernel
theorem dX1_isOverlap_30 : decode cX1_isOverlap 30 = .ok (.invokevirtual 35, 3) := by decide +kernel
theorem dX1_isOverlap_33 : decode cX1_isOverlap 33 = .ok (.ifCond .eq 14, 3) := by decide +kernel
theorem dX1_isOverlap_36 : decode cX1_isOverlap 36 = .ok (.aload_n 1, 1) := by decide +kernel
theorem dX1_isOverlap_37 : decode cX1_isOverlap 37 = .ok (.aload_n 0, 1) := by decide +kernel
theorem dX1_isOverlap_38 : decode cX1_isOverlap 38 = .ok (.getfield 29, 3) := by decide +kernel
theorem dX1_isOverlap_41 : decode cX1_isOverlap 41 = .ok (.invokevirtual 35, 3) := by decide +kernel
theorem dX1_isOverlap_44 : decode cX1_isOverlap 44 = .ok (.ifCond .ne 5, 3) := by decide +kernel
theorem dX1_isOverlap_47 : decode cX1_isOverlap 47 = .ok (.iconst 0, 1) := by decide +kernel
theorem dX1_isOverlap_48 : decode cX1_isOverlap 48 = .ok (.ireturn, 1) := by decide +kernel
theorem dX1_isOverlap_49 : decode cX1_isOverlap 49 = .ok (.aload_n 1, 1) := by decide +kernel
theorem dX1_isOverlap_50 : decode cX1_isOverlap 50 = .ok (.getfield 41, 3) := by decide +kernel
theorem dX1_isOverlap_53 : decode cX1_isOverlap 53 = .ok (.aload_n 0, 1) := by decide +kernel
theorem dX1_isOverlap_54 : decode cX1_isOverlap 54 = .ok (.getfield 25, 3) := by decide +kernel
theorem dX1_isOverlap_57 : decode cX1_isOverlap 57 = .ok (.iaload, 1) := by decide +kernel
theorem dX1_isOverlap_58 : decode cX1_isOverlap 58 = .ok (.istore_n 3, 1) := by decide +kernel
theorem dX1_isOverlap_59 : decode cX1_isOverlap 59 = .ok (.aload_n 0, 1) := by decide +kernel
theorem dX1_isOverlap_60 : decode cX1_isOverlap 60 = .ok (.getfield 32, 3) := by decide +kernel
theorem dX1_isOverlap_63 : decode cX1_isOverlap 63 = .ok (.aload_n 1, 1) := by decide +kernel
theorem dX1_isOverlap_64 : decode cX1_isOverlap 64 = .ok (.getfield 41, 3) := by decide +kernel
theorem dX1_isOverlap_67 : decode cX1_isOverlap 67 = .ok (.aload_n 0, 1) := by decide +kernel
theorem dX1_isOverlap_68 : decode cX1_isOverlap 68 = .ok (.getfield 29, 3) := by decide +kernel
theorem dX1_isOverlap_71 : decode cX1_isOverlap 71 = .ok (.iaload, 1) := by decide +kernel
theorem dX1_isOverlap_72 : decode cX1_isOverlap 72 = .ok (.iadd, 1) := by decide +kernel
theorem dX1_isOverlap_73 : decode cX1_isOverlap 73 = .ok (.istore 4, 2) := by decide +kernel
theorem dX1_isOverlap_75 : decode cX1_isOverlap 75 = .ok (.aload_n 0, 1) := by decide +kernel
theorem dX1_isOverlap_76 : decode cX1_isOverlap 76 = .ok (.getfield 32, 3) := by decide +kernel
theorem dX1_isOverlap_79 : decode cX1_isOverlap 79 = .ok (.ifCond .le 21, 3) := by decide +kernel
theorem dX1_isOverlap_82 : decode cX1_isOverlap 82 = .ok (.aload_n 0, 1) := by decide +kernel
theorem dX1_isOverlap_83 : decode cX1_isOverlap 83 = .ok (.getfield 32, 3) := by decide +kernel
theorem dX1_isOverlap_86 : decode cX1_isOverlap 86 = .ok (.iload_n 3, 1) := by decide +kernel
theorem dX1_isOverlap_87 : decode cX1_isOverlap 87 = .ok (.if_icmp .ge 13, 3) := by decide +kernel
theorem dX1_isOverlap_90 : decode cX1_isOverlap 90 = .ok (.iload 4, 2) := by decide +kernel
theorem dX1_isOverlap_92 : decode cX1_isOverlap 92 = .ok (.iload_n 3, 1) := by decide +kernel
theorem dX1_isOverlap_93 : decode cX1_isOverlap 93 = .ok (.if_icmp .lt 7, 3) := by decide +kernel
theorem dX1_isOverlap_96 : decode cX1_isOverlap 96 = .ok (.iconst 1, 1) := by decide +kernel
theorem dX1_isOverlap_97 : decode cX1_isOverlap 97 = .ok (.goto 4, 3) := by decide +kernel
theorem dX1_isOverlap_100 : decode cX1_isOverlap 100 = .ok (.iconst 0, 1) := by decide +kernel
theorem dX1_isOverlap_101 : decode cX1_isOverlap 101 = .ok (.istore 5, 2) := by decide +kernel
theorem dX1_isOverlap_103 : decode cX1_isOverlap 103 = .ok (.aload_n 0, 1) := by decide +kernel
theorem dX1_isOverlap_104 : decode cX1_isOverlap 104 = .ok (.getfield 25, 3) := by decide +kernel
theorem dX1_isOverlap_107 : decode cX1_isOverlap 107 = .ok (.aload_n 0, 1) := by decide +kernel
theorem dX1_isOverlap_108 : decode cX1_isOverlap 108 = .ok (.getfield 29, 3) := by decide +kernel
theorem dX1_isOverlap_111 : decode cX1_isOverlap 111 = .ok (.if_icmp .eq 13, 3) := by decide +kernel
theorem dX1_isOverlap_114 : decode cX1_isOverlap 114 = .ok (.iload 4, 2) := by decide +kernel
theorem dX1_isOverlap_116 : decode cX1_isOverlap 116 = .ok (.iload_n 3, 1) := by decide +kernel
theorem dX1_isOverlap_117 : decode cX1_isOverlap 117 = .ok (.if_icmp .gt 7, 3) := by decide +kernel
theorem dX1_isOverlap_120 : decode cX1_isOverlap 120 = .ok (.iconst 1, 1) := by decide +kernel
theorem dX1_isOverlap_121 : decode cX1_isOverlap 121 = .ok (.goto 4, 3) := by decide +kernel
theorem dX1_isOverlap_124 : decode cX1_isOverlap 124 = .ok (.iconst 0, 1) := by decide +kernel
theorem dX1_isOverlap_125 : decode cX1_isOverlap 125 = .ok (.istore 6, 2) := by decide +kernel
theorem dX1_isOverlap_127 : decode cX1_isOverlap 127 = .ok (.iload 5, 2) := by decide +kernel
theorem dX1_isOverlap_129 : decode cX1_isOverlap 129 = .ok (.ifCond .ne 10, 3) := by decide +kernel
theorem dX1_isOverlap_132 : decode cX1_isOverlap 132 = .ok (.iload 6, 2) := by decide +kernel
theorem dX1_isOverlap_134 : decode cX1_isOverlap 134 = .ok (.ifCond .ne 5, 3) := by decide +kernel
theorem dX1_isOverlap_137 : decode cX1_isOverlap 137 = .ok (.iconst 0, 1) := by decide +kernel
theorem dX1_isOverlap_138 : decode cX1_isOverlap 138 = .ok (.ireturn, 1) := by decide +kernel
theorem dX1_isOverlap_139 : decode cX1_isOverlap 139 = .ok (.aload_n 0, 1) := by decide +kernel
theorem dX1_isOverlap_140 : decode cX1_isOverlap 140 = .ok (.aload_n 0, 1) := by decide +kernel
theorem dX1_isOverlap_141 : decode cX1_isOverlap 141 = .ok (.aload_n 1, 1) := by decide +kernel
theorem dX1_isOverlap_142 : decode cX1_isOverlap 142 = .ok (.iload 4, 2) := by decide +kernel
theorem dX1_isOverlap_144 : decode cX1_isOverlap 144 = .ok (.iload_n 3, 1) := by decide +kernel
theorem dX1_isOverlap_145 : decode cX1_isOverlap 145 = .ok (.isub, 1) := by decide +kernel
theorem dX1_isOverlap_146 : decode cX1_isOverlap 146 = .ok (.invokevirtual 45, 3) := by decide +kernel
theorem dX1_isOverlap_149 : decode cX1_isOverlap 149 = .ok (.putfield 49, 3) := by decide +kernel
theorem dX1_isOverlap_152 : decode cX1_isOverlap 152 = .ok (.aload_n 1, 1) := by decide +kernel
theorem dX1_isOverlap_153 : decode cX1_isOverlap 153 = .ok (.aload_n 0, 1) := by decide +kernel
theorem dX1_isOverlap_154 : decode cX1_isOverlap 154 = .ok (.getfield 49, 3) := by decide +kernel
theorem dX1_isOverlap_157 : decode cX1_isOverlap 157 = .ok (.aload_n 0, 1) := by decide +kernel
theorem dX1_isOverlap_158 : decode cX1_isOverlap 158 = .ok (.getfield 49, 3) := by decide +kernel
theorem dX1_isOverlap_161 : decode cX1_isOverlap 161 = .ok (.invokestatic 52, 3) := by decide +kernel
theorem dX1_isOverlap_164 : decode cX1_isOverlap 164 = .ok (.aload_n 0, 1) := by decide +kernel
theorem dX1_isOverlap_165 : decode cX1_isOverlap 165 = .ok (.getfield 25, 3) := by decide +kernel
theorem dX1_isOverlap_168 : decode cX1_isOverlap 168 = .ok (.iconst 0, 1) := by decide +kernel
theorem dX1_isOverlap_169 : decode cX1_isOverlap 169 = .ok (.invokevirtual 58, 3) := by decide +kernel
theorem dX1_isOverlap_172 : decode cX1_isOverlap 172 = .ok (.ifCond .eq 33, 3) := by decide +kernel
theorem dX1_isOverlap_175 : decode cX1_isOverlap 175 = .ok (.aload_n 1, 1) := by decide +kernel
theorem dX1_isOverlap_176 : decode cX1_isOverlap 176 = .ok (.aload_n 0, 1) := by decide +kernel
theorem dX1_isOverlap_177 : decode cX1_isOverlap 177 = .ok (.getfield 49, 3) := by decide +kernel
theorem dX1_isOverlap_180 : decode cX1_isOverlap 180 = .ok (.aload_n 0, 1) := by decide +kernel
theorem dX1_isOverlap_181 : decode cX1_isOverlap 181 = .ok (.getfield 49, 3) := by decide +kernel
theorem dX1_isOverlap_184 : decode cX1_isOverlap 184 = .ok (.invokestatic 52, 3) := by decide +kernel
theorem dX1_isOverlap_187 : decode cX1_isOverlap 187 = .ok (.aload_n 0, 1) := by decide +kernel
theorem dX1_isOverlap_188 : decode cX1_isOverlap 188 = .ok (.getfield 29, 3) := by decide +kernel
theorem dX1_isOverlap_191 : decode cX1_isOverlap 191 = .ok (.aload_n 0, 1) := by decide +kernel
theorem dX1_isOverlap_192 : decode cX1_isOverlap 192 = .ok (.getfield 32, 3) := by decide +kernel
theorem dX1_isOverlap_195 : decode cX1_isOverlap 195 = .ok (.invokevirtual 58, 3) := by decide +kernel
theorem dX1_isOverlap_198 : decode cX1_isOverlap 198 = .ok (.ifCond .eq 7, 3) := by decide +kernel
theorem dX1_isOverlap_201 : decode cX1_isOverlap 201 = .ok (.iconst 1, 1) := by decide +kernel
theorem dX1_isOverlap_202 : decode cX1_isOverlap 202 = .ok (.goto 4, 3) := by decide +kernel
theorem dX1_isOverlap_205 : decode cX1_isOverlap 205 = .ok (.iconst 0, 1) := by decide +kernel
theorem dX1_isOverlap_206 : decode cX1_isOverlap 206 = .ok (.ireturn, 1) := by decide +kernel
set_option maxRecDepth 20000 in
theorem ggX1_coveredWord_X9_lastBits : GoodIn wsX1_coveredWord wsX9_lastBits := goodIn_r _ [5] (by decide +kernel) (by decide +kernel)
set_option maxRecDepth 20000 in
theorem gX1_coveredWord_X9_lastBits_n65 : GoodIn wsX1_coveredWord (wsX9_lastBits) := ggX1_coveredWord_X9_lastBits
theorem dX1_coveredWord_0 : decode cX1_coveredWord 0 = .ok (.aload_n 1, 1) := by decide +kernel
theorem dX1_coveredWord_1 : decode cX1_coveredWord 1 = .ok (.getfield 62, 3) := by decide +kernel
theorem dX1_coveredWord_4 : decode cX1_coveredWord 4 = .ok (.aload_n 0, 1) := by decide +kernel
theorem dX1_coveredWord_5 : decode cX1_coveredWord 5 = .ok (.getfield 25, 3) := by decide +kernel
theorem dX1_coveredWord_8 : decode cX1_coveredWord 8 = .ok (.iaload, 1) := by decide +kernel
theorem dX1_coveredWord_9 : decode cX1_coveredWord 9 = .ok (.istore_n 3, 1) := by decide +kernel
theorem dX1_coveredWord_10 : decode cX1_coveredWord 10 = .ok (.iload_n 2, 1) := by decide +kernel
theorem dX1_coveredWord_11 : decode cX1_coveredWord 11 = .ok (.ifCond .gt 5, 3) := by decide +kernel
theorem dX1_coveredWord_14 : decode cX1_coveredWord 14 = .ok (.iload_n 3, 1) := by decide +kernel
theorem dX1_coveredWord_15 : decode cX1_coveredWord 15 = .ok (.ireturn, 1) := by decide +kernel
theorem dX1_coveredWord_16 : decode cX1_coveredWord 16 = .ok (.iload_n 3, 1) := by decide +kernel
theorem dX1_coveredWord_17 : decode cX1_coveredWord 17 = .ok (.iconst 2, 1) := by decide +kernel
theorem dX1_coveredWord_18 : decode cX1_coveredWord 18 = .ok (.iload_n 2, 1) := by decide +kernel
theorem dX1_coveredWord_19 : decode cX1_coveredWord 19 = .ok (.imul, 1) := by decide +kernel
theorem dX1_coveredWord_20 : decode cX1_coveredWord 20 = .ok (.ishl, 1) := by decide +kernel
theorem dX1_coveredWord_21 : decode cX1_coveredWord 21 = .ok (.aload_n 1, 1) := by decide +kernel
theorem dX1_coveredWord_22 : decode cX1_coveredWord 22 = .ok (.getfield 62, 3) := by decide +kernel
theorem dX1_coveredWord_25 : decode cX1_coveredWord 25 = .ok (.aload_n 0, 1) := by decide +kernel
theorem dX1_coveredWord_26 : decode cX1_coveredWord 26 = .ok (.getfield 29, 3) := by decide +kernel
theorem dX1_coveredWord_29 : decode cX1_coveredWord 29 = .ok (.iaload, 1) := by decide +kernel
theorem dX1_coveredWord_30 : decode cX1_coveredWord 30 = .ok (.iload_n 2, 1) := by decide +kernel
theorem dX1_coveredWord_31 : decode cX1_coveredWord 31 = .ok (.invokestatic 65, 3) := by decide +kernel
theorem dX1_coveredWord_34 : decode cX1_coveredWord 34 = .ok (.ior, 1) := by decide +kernel
theorem dX1_coveredWord_35 : decode cX1_coveredWord 35 = .ok (.ireturn, 1) := by decide +kernel
set_option maxRecDepth 20000 in
theorem ggX1_firstWord_X4_applied : GoodIn wsX1_firstWord wsX4_applied := goodIn_r _ [6, 7, 8, 9, 10, 11, 12, 13, 14, 21, 22, 23, 24, 25, 26] (by decide +kernel) (by decide +kernel)
set_option maxRecDepth 20000 in
theorem gX1_firstWord_X4_applied_n69 : GoodIn wsX1_firstWord (wsX4_applied) := ggX1_firstWord_X4_applied
theorem dX1_firstWord_0 : decode cX1_firstWord 0 = .ok (.aload_n 1, 1) := by decide +kernel
theorem dX1_firstWord_1 : decode cX1_firstWord 1 = .ok (.aload_n 0, 1) := by decide +kernel
theorem dX1_firstWord_2 : decode cX1_firstWord 2 = .ok (.getfield 49, 3) := by decide +kernel
theorem dX1_firstWord_5 : decode cX1_firstWord 5 = .ok (.aload_n 0, 1) := by decide +kernel
theorem dX1_firstWord_6 : decode cX1_firstWord 6 = .ok (.getfield 25, 3) := by decide +kernel
theorem dX1_firstWord_9 : decode cX1_firstWord 9 = .ok (.iconst 0, 1) := by decide +kernel
theorem dX1_firstWord_10 : decode cX1_firstWord 10 = .ok (.invokevirtual 69, 3) := by decide +kernel
theorem dX1_firstWord_13 : decode cX1_firstWord 13 = .ok (.ireturn, 1) := by decide +kernel
set_option maxRecDepth 20000 in
theorem ggX1_secondWord_X4_applied : GoodIn wsX1_secondWord wsX4_applied := goodIn_r _ [7, 8, 9, 10, 11, 12, 13, 14, 15, 22, 23, 24, 25, 26, 27] (by decide +kernel) (by decide +kernel)
set_option maxRecDepth 20000 in
theorem gX1_secondWord_X4_applied_n69 : GoodIn wsX1_secondWord (wsX4_applied) := ggX1_secondWord_X4_applied
theorem dX1_secondWord_0 : decode cX1_secondWord 0 = .ok (.aload_n 1, 1) := by decide +kernel
theorem dX1_secondWord_1 : decode cX1_secondWord 1 = .ok (.aload_n 0, 1) := by decide +kernel
theorem dX1_secondWord_2 : decode cX1_secondWord 2 = .ok (.getfield 49, 3) := by decide +kernel
theorem dX1_secondWord_5 : decode cX1_secondWord 5 = .ok (.aload_n 0, 1) := by decide +kernel
theorem dX1_secondWord_6 : decode cX1_secondWord 6 = .ok (.getfield 29, 3) := by decide +kernel
theorem dX1_secondWord_9 : decode cX1_secondWord 9 = .ok (.aload_n 0, 1) := by decide +kernel
theorem dX1_secondWord_10 : decode cX1_secondWord 10 = .ok (.getfield 32, 3) := by decide +kernel
theorem dX1_secondWord_13 : decode cX1_secondWord 13 = .ok (.invokevirtual 69, 3) := by decide +kernel
theorem dX1_secondWord_16 : decode cX1_secondWord 16 = .ok (.ireturn, 1) := by decide +kernel
set_option maxRecDepth 20000 in
theorem ggX1_verdict_X1_firstWord : GoodIn wsX1_verdict wsX1_firstWord := goodIn_r _ [7, 8, 9, 10, 11, 12, 13, 14, 15, 16, 17, 18, 19, 20, 21, 68, 69, 70, 71, 72, 73, 74, 75, 76, 77, 78, 79] (by decide +kernel) (by decide +kernel)
set_option maxRecDepth 20000 in
theorem gX1_verdict_X1_firstWord : GoodIn wsX1_verdict (wsV RX1 76 RX1 yX1_firstWord wsX1_firstWord) := goodIn_app (goodIn_of _ (by decide +kernel)) ggX1_verdict_X1_firstWord
set_option maxRecDepth 20000 in
theorem ggX1_verdict_X3_run : GoodIn wsX1_verdict wsX3_run := goodIn_r _ [25, 26, 27, 28, 29, 30, 31, 32, 33, 23, 34, 35, 11, 36, 37, 38, 17, 18, 19, 39, 40, 41, 42, 16, 43, 44, 45, 46, 47, 10, 12, 13, 14, 15, 20, 21, 63, 64, 65, 66, 67, 74, 75, 76, 77, 78, 79] (by decide +kernel) (by decide +kernel)
set_option maxRecDepth 20000 in
theorem gX1_verdict_X3_run_n80 : GoodIn wsX1_verdict (wsX3_run) := ggX1_verdict_X3_run
set_option maxRecDepth 20000 in
theorem ggX1_verdict_X3_last : GoodIn wsX1_verdict wsX3_last := goodIn_r _ [50, 26, 27, 63, 64, 65, 66, 67] (by decide +kernel) (by decide +kernel)
set_option maxRecDepth 20000 in
theorem gX1_verdict_X3_last_n89 : GoodIn wsX1_verdict (wsX3_last) := ggX1_verdict_X3_last
set_option maxRecDepth 20000 in
theorem ggX1_verdict_X1_secondWord : GoodIn wsX1_verdict wsX1_secondWord := goodIn_r _ [54, 8, 55, 56, 10, 11, 12, 13, 14, 15, 16, 17, 18, 19, 20, 21, 68, 69, 70, 71, 72, 73, 74, 75, 76, 77, 78, 79] (by decide +kernel) (by decide +kernel)
set_option maxRecDepth 20000 in
theorem gX1_verdict_X1_secondWord : GoodIn wsX1_verdict (wsV RX1 96 RX1 yX1_secondWord wsX1_secondWord) := goodIn_app (goodIn_of _ (by decide +kernel)) ggX1_verdict_X1_secondWord
theorem dX1_verdict_0 : decode cX1_verdict 0 = .ok (.aload_n 2, 1) := by decide +kernel
theorem dX1_verdict_1 : decode cX1_verdict 1 = .ok (.aload_n 1, 1) := by decide +kernel
theorem dX1_verdict_2 : decode cX1_verdict 2 = .ok (.getfield 15, 3) := by decide +kernel
theorem dX1_verdict_5 : decode cX1_verdict 5 = .ok (.aload_n 1, 1) := by decide +kernel
theorem dX1_verdict_6 : decode cX1_verdict 6 = .ok (.getfield 73, 3) := by decide +kernel
theorem dX1_verdict_9 : decode cX1_verdict 9 = .ok (.aload_n 0, 1) := by decide +kernel
theorem dX1_verdict_10 : decode cX1_verdict 10 = .ok (.aload_n 1, 1) := by decide +kernel
theorem dX1_verdict_11 : decode cX1_verdict 11 = .ok (.getfield 15, 3) := by decide +kernel
theorem dX1_verdict_14 : decode cX1_verdict 14 = .ok (.invokevirtual 76, 3) := by decide +kernel
theorem dX1_verdict_17 : decode cX1_verdict 17 = .ok (.invokevirtual 80, 3) := by decide +kernel
theorem dX1_verdict_20 : decode cX1_verdict 20 = .ok (.aload_n 2, 1) := by decide +kernel
theorem dX1_verdict_21 : decode cX1_verdict 21 = .ok (.getfield 86, 3) := by decide +kernel
theorem dX1_verdict_24 : decode cX1_verdict 24 = .ok (.ifCond .eq 5, 3) := by decide +kernel
theorem dX1_verdict_27 : decode cX1_verdict 27 = .ok (.iconst 2, 1) := by decide +kernel
theorem dX1_verdict_28 : decode cX1_verdict 28 = .ok (.ireturn, 1) := by decide +kernel
theorem dX1_verdict_29 : decode cX1_verdict 29 = .ok (.aload_n 0, 1) := by decide +kernel
theorem dX1_verdict_30 : decode cX1_verdict 30 = .ok (.aload_n 2, 1) := by decide +kernel
theorem dX1_verdict_31 : decode cX1_verdict 31 = .ok (.invokevirtual 89, 3) := by decide +kernel
theorem dX1_verdict_34 : decode cX1_verdict 34 = .ok (.putfield 93, 3) := by decide +kernel
theorem dX1_verdict_37 : decode cX1_verdict 37 = .ok (.aload_n 2, 1) := by decide +kernel
theorem dX1_verdict_38 : decode cX1_verdict 38 = .ok (.aload_n 1, 1) := by decide +kernel
theorem dX1_verdict_39 : decode cX1_verdict 39 = .ok (.getfield 15, 3) := by decide +kernel
theorem dX1_verdict_42 : decode cX1_verdict 42 = .ok (.aload_n 1, 1) := by decide +kernel
theorem dX1_verdict_43 : decode cX1_verdict 43 = .ok (.getfield 73, 3) := by decide +kernel
theorem dX1_verdict_46 : decode cX1_verdict 46 = .ok (.aload_n 0, 1) := by decide +kernel
theorem dX1_verdict_47 : decode cX1_verdict 47 = .ok (.aload_n 1, 1) := by decide +kernel
theorem dX1_verdict_48 : decode cX1_verdict 48 = .ok (.getfield 15, 3) := by decide +kernel
theorem dX1_verdict_51 : decode cX1_verdict 51 = .ok (.invokevirtual 96, 3) := by decide +kernel
theorem dX1_verdict_54 : decode cX1_verdict 54 = .ok (.invokevirtual 80, 3) := by decide +kernel
theorem dX1_verdict_57 : decode cX1_verdict 57 = .ok (.aload_n 2, 1) := by decide +kernel
theorem dX1_verdict_58 : decode cX1_verdict 58 = .ok (.getfield 86, 3) := by decide +kernel
theorem dX1_verdict_61 : decode cX1_verdict 61 = .ok (.ifCond .eq 5, 3) := by decide +kernel
theorem dX1_verdict_64 : decode cX1_verdict 64 = .ok (.iconst 2, 1) := by decide +kernel
theorem dX1_verdict_65 : decode cX1_verdict 65 = .ok (.ireturn, 1) := by decide +kernel
theorem dX1_verdict_66 : decode cX1_verdict 66 = .ok (.aload_n 0, 1) := by decide +kernel
theorem dX1_verdict_67 : decode cX1_verdict 67 = .ok (.aload_n 2, 1) := by decide +kernel
theorem dX1_verdict_68 : decode cX1_verdict 68 = .ok (.invokevirtual 89, 3) := by decide +kernel
theorem dX1_verdict_71 : decode cX1_verdict 71 = .ok (.putfield 99, 3) := by decide +kernel
theorem dX1_verdict_74 : decode cX1_verdict 74 = .ok (.aload_n 0, 1) := by decide +kernel
theorem dX1_verdict_75 : decode cX1_verdict 75 = .ok (.getfield 93, 3) := by decide +kernel
theorem dX1_verdict_78 : decode cX1_verdict 78 = .ok (.aload_n 0, 1) := by decide +kernel
theorem dX1_verdict_79 : decode cX1_verdict 79 = .ok (.getfield 99, 3) := by decide +kernel
theorem dX1_verdict_82 : decode cX1_verdict 82 = .ok (.if_icmp .ne 7, 3) := by decide +kernel
theorem dX1_verdict_85 : decode cX1_verdict 85 = .ok (.iconst 0, 1) := by decide +kernel
theorem dX1_verdict_86 : decode cX1_verdict 86 = .ok (.goto 4, 3) := by decide +kernel
theorem dX1_verdict_89 : decode cX1_verdict 89 = .ok (.iconst 1, 1) := by decide +kernel
theorem dX1_verdict_90 : decode cX1_verdict 90 = .ok (.ireturn, 1) := by decide +kernel
theorem dX2_init_0 : decode cX2_init 0 = .ok (.aload_n 0, 1) := by decide +kernel
theorem dX2_init_1 : decode cX2_init 1 = .ok (.invokespecial 3, 3) := by decide +kernel
theorem dX2_init_4 : decode cX2_init 4 = .ok (.aload_n 0, 1) := by decide +kernel
theorem dX2_init_5 : decode cX2_init 5 = .ok (.sipush 400, 3) := by decide +kernel
theorem dX2_init_8 : decode cX2_init 8 = .ok (.newarray .int, 2) := by decide +kernel
theorem dX2_init_10 : decode cX2_init 10 = .ok (.putfield 9, 3) := by decide +kernel
theorem dX2_init_13 : decode cX2_init 13 = .ok (.aload_n 0, 1) := by decide +kernel
theorem dX2_init_14 : decode cX2_init 14 = .ok (.sipush 1024, 3) := by decide +kernel
theorem dX2_init_17 : decode cX2_init 17 = .ok (.newarray .int, 2) := by decide +kernel
theorem dX2_init_19 : decode cX2_init 19 = .ok (.putfield 15, 3) := by decide +kernel
theorem dX2_init_22 : decode cX2_init 22 = .ok (.return_, 1) := by decide +kernel
set_option maxRecDepth 20000 in
theorem ggX2_run_J7_fill_53178 : GoodIn wsX2_run wsJ7_fill_53178 := goodIn_r _ [9] (by decide +kernel) (by decide +kernel)
set_option maxRecDepth 20000 in
theorem gX2_run_J7_fill_53178 : GoodIn wsX2_run (va_wsS RX2 18 yJ7_fill_53178 wsJ7_fill_53178) := goodIn_app (goodIn_of _ (by decide +kernel)) ggX2_run_J7_fill_53178
set_option maxRecDepth 20000 in
theorem ggX2_run_X2_add : GoodIn wsX2_run wsX2_add := goodIn_r _ [14, 15, 1, 2, 3, 5, 49, 50, 51, 52, 53, 54, 55] (by decide +kernel) (by decide +kernel)
set_option maxRecDepth 20000 in
theorem gX2_run_X2_add : GoodIn wsX2_run (wsV RX2 35 RX2 yX2_add wsX2_add) := goodIn_app (goodIn_of _ (by decide +kernel)) ggX2_run_X2_add
set_option maxRecDepth 20000 in
theorem ggX2_run_X2_addAllFrom : GoodIn wsX2_run wsX2_addAllFrom := goodIn_r _ [19, 20, 21, 22, 23, 24, 25, 26, 27, 28, 29, 30, 31, 32, 33, 34, 35, 10, 11, 12, 13, 14, 15, 1, 2, 3, 5, 36, 37, 38, 39, 4, 40, 41, 42, 43, 44, 45, 46, 47, 48, 56, 57, 58, 59, 60, 61, 49, 50, 51, 52, 53, 54, 55] (by decide +kernel) (by decide +kernel)
set_option maxRecDepth 20000 in
theorem gX2_run_X2_addAllFrom : GoodIn wsX2_run (wsV RX2 39 RX2 yX2_addAllFrom wsX2_addAllFrom) := goodIn_app (goodIn_of _ (by decide +kernel)) ggX2_run_X2_addAllFrom
theorem dX2_run_0 : decode cX2_run 0 = .ok (.aload_n 0, 1) := by decide +kernel
theorem dX2_run_1 : decode cX2_run 1 = .ok (.getfield 15, 3) := by decide +kernel
theorem dX2_run_4 : decode cX2_run 4 = .ok (.iconst 0, 1) := by decide +kernel
theorem dX2_run_5 : decode cX2_run 5 = .ok (.invokestatic 18, 3) := by decide +kernel
theorem dX2_run_8 : decode cX2_run 8 = .ok (.aload_n 0, 1) := by decide +kernel
theorem dX2_run_9 : decode cX2_run 9 = .ok (.iconst 0, 1) := by decide +kernel
theorem dX2_run_10 : decode cX2_run 10 = .ok (.putfield 24, 3) := by decide +kernel
theorem dX2_run_13 : decode cX2_run 13 = .ok (.aload_n 0, 1) := by decide +kernel
theorem dX2_run_14 : decode cX2_run 14 = .ok (.iconst 0, 1) := by decide +kernel
theorem dX2_run_15 : decode cX2_run 15 = .ok (.putfield 28, 3) := by decide +kernel
theorem dX2_run_18 : decode cX2_run 18 = .ok (.aload_n 0, 1) := by decide +kernel
theorem dX2_run_19 : decode cX2_run 19 = .ok (.iconst 0, 1) := by decide +kernel
theorem dX2_run_20 : decode cX2_run 20 = .ok (.putfield 32, 3) := by decide +kernel
theorem dX2_run_23 : decode cX2_run 23 = .ok (.aload_n 0, 1) := by decide +kernel
theorem dX2_run_24 : decode cX2_run 24 = .ok (.iload_n 2, 1) := by decide +kernel
theorem dX2_run_25 : decode cX2_run 25 = .ok (.invokevirtual 35, 3) := by decide +kernel
theorem dX2_run_28 : decode cX2_run 28 = .ok (.iconst 0, 1) := by decide +kernel
theorem dX2_run_29 : decode cX2_run 29 = .ok (.istore_n 3, 1) := by decide +kernel
theorem dX2_run_30 : decode cX2_run 30 = .ok (.iload_n 3, 1) := by decide +kernel
theorem dX2_run_31 : decode cX2_run 31 = .ok (.aload_n 0, 1) := by decide +kernel
theorem dX2_run_32 : decode cX2_run 32 = .ok (.getfield 24, 3) := by decide +kernel
theorem dX2_run_35 : decode cX2_run 35 = .ok (.if_icmp .ge 34, 3) := by decide +kernel
theorem dX2_run_38 : decode cX2_run 38 = .ok (.iload_n 3, 1) := by decide +kernel
theorem dX2_run_39 : decode cX2_run 39 = .ok (.sipush 400, 3) := by decide +kernel
theorem dX2_run_42 : decode cX2_run 42 = .ok (.if_icmp .ge 27, 3) := by decide +kernel
theorem dX2_run_45 : decode cX2_run 45 = .ok (.aload_n 0, 1) := by decide +kernel
theorem dX2_run_46 : decode cX2_run 46 = .ok (.getfield 28, 3) := by decide +kernel
theorem dX2_run_49 : decode cX2_run 49 = .ok (.ifCond .ne 20, 3) := by decide +kernel
theorem dX2_run_52 : decode cX2_run 52 = .ok (.aload_n 0, 1) := by decide +kernel
theorem dX2_run_53 : decode cX2_run 53 = .ok (.aload_n 0, 1) := by decide +kernel
theorem dX2_run_54 : decode cX2_run 54 = .ok (.getfield 9, 3) := by decide +kernel
theorem dX2_run_57 : decode cX2_run 57 = .ok (.iload_n 3, 1) := by decide +kernel
theorem dX2_run_58 : decode cX2_run 58 = .ok (.iaload, 1) := by decide +kernel
theorem dX2_run_59 : decode cX2_run 59 = .ok (.aload_n 1, 1) := by decide +kernel
theorem dX2_run_60 : decode cX2_run 60 = .ok (.invokevirtual 39, 3) := by decide +kernel
theorem dX2_run_63 : decode cX2_run 63 = .ok (.iinc 3 1, 3) := by decide +kernel
theorem dX2_run_66 : decode cX2_run 66 = .ok (.goto (-36), 3) := by decide +kernel
theorem dX2_run_69 : decode cX2_run 69 = .ok (.return_, 1) := by decide +kernel
set_option maxRecDepth 20000 in
theorem ggX2_addAllFrom_X9_lengthOf : GoodIn wsX2_addAllFrom wsX9_lengthOf := goodIn_r _ [3] (by decide +kernel) (by decide +kernel)
set_option maxRecDepth 20000 in
theorem gX2_addAllFrom_X9_lengthOf_n43 : GoodIn wsX2_addAllFrom (wsX9_lengthOf) := ggX2_addAllFrom_X9_lengthOf
set_option maxRecDepth 20000 in
theorem ggX2_addAllFrom_X4_appliesAt : GoodIn wsX2_addAllFrom wsX4_appliesAt := goodIn_r _ [7, 8, 9, 41, 42, 43, 44, 45, 46] (by decide +kernel) (by decide +kernel)
set_option maxRecDepth 20000 in
theorem gX2_addAllFrom_X4_appliesAt_n52 : GoodIn wsX2_addAllFrom (wsX4_appliesAt) := ggX2_addAllFrom_X4_appliesAt
set_option maxRecDepth 20000 in
theorem ggX2_addAllFrom_X4_applied : GoodIn wsX2_addAllFrom wsX4_applied := goodIn_r _ [12, 13, 14, 8, 1, 2, 3, 15, 16, 41, 42, 43, 44, 45, 46] (by decide +kernel) (by decide +kernel)
set_option maxRecDepth 20000 in
theorem gX2_addAllFrom_X4_applied_n56 : GoodIn wsX2_addAllFrom (wsX4_applied) := ggX2_addAllFrom_X4_applied
set_option maxRecDepth 20000 in
theorem ggX2_addAllFrom_X2_add : GoodIn wsX2_addAllFrom wsX2_add := goodIn_r _ [21, 22, 23, 24, 25, 26, 47, 48, 49, 50, 51, 52, 53] (by decide +kernel) (by decide +kernel)
set_option maxRecDepth 20000 in
theorem gX2_addAllFrom_X2_add : GoodIn wsX2_addAllFrom (wsV RX2 35 RX2 yX2_add wsX2_add) := goodIn_app (goodIn_of _ (by decide +kernel)) ggX2_addAllFrom_X2_add
set_option maxRecDepth 20000 in
theorem ggX2_addAllFrom_X2_addEnd : GoodIn wsX2_addAllFrom wsX2_addEnd := goodIn_r _ [30, 31, 32, 33, 34, 35, 36, 37, 38, 39, 40, 47, 48, 49, 50, 51, 52, 53] (by decide +kernel) (by decide +kernel)
set_option maxRecDepth 20000 in
theorem gX2_addAllFrom_X2_addEnd : GoodIn wsX2_addAllFrom (wsV RX2 60 RX2 yX2_addEnd wsX2_addEnd) := goodIn_app (goodIn_of _ (by decide +kernel)) ggX2_addAllFrom_X2_addEnd
theorem dX2_addAllFrom_0 : decode cX2_addAllFrom 0 = .ok (.iload_n 1, 1) := by decide +kernel
theorem dX2_addAllFrom_1 : decode cX2_addAllFrom 1 = .ok (.invokestatic 43, 3) := by decide +kernel
theorem dX2_addAllFrom_4 : decode cX2_addAllFrom 4 = .ok (.istore_n 3, 1) := by decide +kernel
theorem dX2_addAllFrom_5 : decode cX2_addAllFrom 5 = .ok (.iconst 1, 1) := by decide +kernel
theorem dX2_addAllFrom_6 : decode cX2_addAllFrom 6 = .ok (.istore 4, 2) := by decide +kernel
theorem dX2_addAllFrom_8 : decode cX2_addAllFrom 8 = .ok (.iconst 0, 1) := by decide +kernel
theorem dX2_addAllFrom_9 : decode cX2_addAllFrom 9 = .ok (.istore 5, 2) := by decide +kernel
theorem dX2_addAllFrom_11 : decode cX2_addAllFrom 11 = .ok (.iload 5, 2) := by decide +kernel
theorem dX2_addAllFrom_13 : decode cX2_addAllFrom 13 = .ok (.iload_n 3, 1) := by decide +kernel
theorem dX2_addAllFrom_14 : decode cX2_addAllFrom 14 = .ok (.if_icmp .ge 56, 3) := by decide +kernel
theorem dX2_addAllFrom_17 : decode cX2_addAllFrom 17 = .ok (.iconst 0, 1) := by decide +kernel
theorem dX2_addAllFrom_18 : decode cX2_addAllFrom 18 = .ok (.istore 6, 2) := by decide +kernel
theorem dX2_addAllFrom_20 : decode cX2_addAllFrom 20 = .ok (.iload 6, 2) := by decide +kernel
theorem dX2_addAllFrom_22 : decode cX2_addAllFrom 22 = .ok (.aload_n 2, 1) := by decide +kernel
theorem dX2_addAllFrom_23 : decode cX2_addAllFrom 23 = .ok (.getfield 49, 3) := by decide +kernel
theorem dX2_addAllFrom_26 : decode cX2_addAllFrom 26 = .ok (.if_icmp .ge 38, 3) := by decide +kernel
theorem dX2_addAllFrom_29 : decode cX2_addAllFrom 29 = .ok (.aload_n 2, 1) := by decide +kernel
theorem dX2_addAllFrom_30 : decode cX2_addAllFrom 30 = .ok (.iload_n 1, 1) := by decide +kernel
theorem dX2_addAllFrom_31 : decode cX2_addAllFrom 31 = .ok (.iload_n 3, 1) := by decide +kernel
theorem dX2_addAllFrom_32 : decode cX2_addAllFrom 32 = .ok (.iload 6, 2) := by decide +kernel
theorem dX2_addAllFrom_34 : decode cX2_addAllFrom 34 = .ok (.iload 5, 2) := by decide +kernel
theorem dX2_addAllFrom_36 : decode cX2_addAllFrom 36 = .ok (.invokevirtual 52, 3) := by decide +kernel
theorem dX2_addAllFrom_39 : decode cX2_addAllFrom 39 = .ok (.ifCond .eq 19, 3) := by decide +kernel
theorem dX2_addAllFrom_42 : decode cX2_addAllFrom 42 = .ok (.iconst 0, 1) := by decide +kernel
theorem dX2_addAllFrom_43 : decode cX2_addAllFrom 43 = .ok (.istore 4, 2) := by decide +kernel
theorem dX2_addAllFrom_45 : decode cX2_addAllFrom 45 = .ok (.aload_n 0, 1) := by decide +kernel
theorem dX2_addAllFrom_46 : decode cX2_addAllFrom 46 = .ok (.aload_n 2, 1) := by decide +kernel
theorem dX2_addAllFrom_47 : decode cX2_addAllFrom 47 = .ok (.iload_n 1, 1) := by decide +kernel
theorem dX2_addAllFrom_48 : decode cX2_addAllFrom 48 = .ok (.iload 6, 2) := by decide +kernel
theorem dX2_addAllFrom_50 : decode cX2_addAllFrom 50 = .ok (.iload 5, 2) := by decide +kernel
theorem dX2_addAllFrom_52 : decode cX2_addAllFrom 52 = .ok (.invokevirtual 56, 3) := by decide +kernel
theorem dX2_addAllFrom_55 : decode cX2_addAllFrom 55 = .ok (.invokevirtual 35, 3) := by decide +kernel
theorem dX2_addAllFrom_58 : decode cX2_addAllFrom 58 = .ok (.iinc 6 1, 3) := by decide +kernel
theorem dX2_addAllFrom_61 : decode cX2_addAllFrom 61 = .ok (.goto (-41), 3) := by decide +kernel
theorem dX2_addAllFrom_64 : decode cX2_addAllFrom 64 = .ok (.iinc 5 1, 3) := by decide +kernel
theorem dX2_addAllFrom_67 : decode cX2_addAllFrom 67 = .ok (.goto (-56), 3) := by decide +kernel
theorem dX2_addAllFrom_70 : decode cX2_addAllFrom 70 = .ok (.iload 4, 2) := by decide +kernel
theorem dX2_addAllFrom_72 : decode cX2_addAllFrom 72 = .ok (.ifCond .eq 8, 3) := by decide +kernel
theorem dX2_addAllFrom_75 : decode cX2_addAllFrom 75 = .ok (.aload_n 0, 1) := by decide +kernel
theorem dX2_addAllFrom_76 : decode cX2_addAllFrom 76 = .ok (.iload_n 1, 1) := by decide +kernel
theorem dX2_addAllFrom_77 : decode cX2_addAllFrom 77 = .ok (.invokevirtual 60, 3) := by decide +kernel
theorem dX2_addAllFrom_80 : decode cX2_addAllFrom 80 = .ok (.return_, 1) := by decide +kernel
theorem dX2_addEnd_0 : decode cX2_addEnd 0 = .ok (.aload_n 0, 1) := by decide +kernel
theorem dX2_addEnd_1 : decode cX2_addEnd 1 = .ok (.aload_n 0, 1) := by decide +kernel
theorem dX2_addEnd_2 : decode cX2_addEnd 2 = .ok (.getfield 32, 3) := by decide +kernel
theorem dX2_addEnd_5 : decode cX2_addEnd 5 = .ok (.ifCond .ne 7, 3) := by decide +kernel
theorem dX2_addEnd_8 : decode cX2_addEnd 8 = .ok (.iload_n 1, 1) := by decide +kernel
theorem dX2_addEnd_9 : decode cX2_addEnd 9 = .ok (.goto 11, 3) := by decide +kernel
theorem dX2_addEnd_12 : decode cX2_addEnd 12 = .ok (.aload_n 0, 1) := by decide +kernel
theorem dX2_addEnd_13 : decode cX2_addEnd 13 = .ok (.getfield 63, 3) := by decide +kernel
theorem dX2_addEnd_16 : decode cX2_addEnd 16 = .ok (.iload_n 1, 1) := by decide +kernel
theorem dX2_addEnd_17 : decode cX2_addEnd 17 = .ok (.invokestatic 66, 3) := by decide +kernel
theorem dX2_addEnd_20 : decode cX2_addEnd 20 = .ok (.putfield 63, 3) := by decide +kernel
theorem dX2_addEnd_23 : decode cX2_addEnd 23 = .ok (.aload_n 0, 1) := by decide +kernel
theorem dX2_addEnd_24 : decode cX2_addEnd 24 = .ok (.aload_n 0, 1) := by decide +kernel
theorem dX2_addEnd_25 : decode cX2_addEnd 25 = .ok (.getfield 32, 3) := by decide +kernel
theorem dX2_addEnd_28 : decode cX2_addEnd 28 = .ok (.ifCond .ne 7, 3) := by decide +kernel
theorem dX2_addEnd_31 : decode cX2_addEnd 31 = .ok (.iload_n 1, 1) := by decide +kernel
theorem dX2_addEnd_32 : decode cX2_addEnd 32 = .ok (.goto 11, 3) := by decide +kernel
theorem dX2_addEnd_35 : decode cX2_addEnd 35 = .ok (.aload_n 0, 1) := by decide +kernel
theorem dX2_addEnd_36 : decode cX2_addEnd 36 = .ok (.getfield 72, 3) := by decide +kernel
theorem dX2_addEnd_39 : decode cX2_addEnd 39 = .ok (.iload_n 1, 1) := by decide +kernel
theorem dX2_addEnd_40 : decode cX2_addEnd 40 = .ok (.invokestatic 75, 3) := by decide +kernel
theorem dX2_addEnd_43 : decode cX2_addEnd 43 = .ok (.putfield 72, 3) := by decide +kernel
theorem dX2_addEnd_46 : decode cX2_addEnd 46 = .ok (.aload_n 0, 1) := by decide +kernel
theorem dX2_addEnd_47 : decode cX2_addEnd 47 = .ok (.dup, 1) := by decide +kernel
theorem dX2_addEnd_48 : decode cX2_addEnd 48 = .ok (.getfield 32, 3) := by decide +kernel
theorem dX2_addEnd_51 : decode cX2_addEnd 51 = .ok (.iconst 1, 1) := by decide +kernel
theorem dX2_addEnd_52 : decode cX2_addEnd 52 = .ok (.iadd, 1) := by decide +kernel
theorem dX2_addEnd_53 : decode cX2_addEnd 53 = .ok (.putfield 32, 3) := by decide +kernel
theorem dX2_addEnd_56 : decode cX2_addEnd 56 = .ok (.return_, 1) := by decide +kernel
theorem dX2_add_0 : decode cX2_add 0 = .ok (.iload_n 1, 1) := by decide +kernel
theorem dX2_add_1 : decode cX2_add 1 = .ok (.ldc 78, 2) := by decide +kernel
theorem dX2_add_3 : decode cX2_add 3 = .ok (.imul, 1) := by decide +kernel
theorem dX2_add_4 : decode cX2_add 4 = .ok (.bipush 22, 2) := by decide +kernel
theorem dX2_add_6 : decode cX2_add 6 = .ok (.iushr, 1) := by decide +kernel
theorem dX2_add_7 : decode cX2_add 7 = .ok (.istore_n 2, 1) := by decide +kernel
theorem dX2_add_8 : decode cX2_add 8 = .ok (.iconst 0, 1) := by decide +kernel
theorem dX2_add_9 : decode cX2_add 9 = .ok (.istore_n 3, 1) := by decide +kernel
theorem dX2_add_10 : decode cX2_add 10 = .ok (.iload_n 3, 1) := by decide +kernel
theorem dX2_add_11 : decode cX2_add 11 = .ok (.sipush 1024, 3) := by decide +kernel
theorem dX2_add_14 : decode cX2_add 14 = .ok (.if_icmp .ge 37, 3) := by decide +kernel
theorem dX2_add_17 : decode cX2_add 17 = .ok (.aload_n 0, 1) := by decide +kernel
theorem dX2_add_18 : decode cX2_add 18 = .ok (.getfield 15, 3) := by decide +kernel
theorem dX2_add_21 : decode cX2_add 21 = .ok (.iload_n 2, 1) := by decide +kernel
theorem dX2_add_22 : decode cX2_add 22 = .ok (.iaload, 1) := by decide +kernel
theorem dX2_add_23 : decode cX2_add 23 = .ok (.ifCond .eq 28, 3) := by decide +kernel
theorem dX2_add_26 : decode cX2_add 26 = .ok (.aload_n 0, 1) := by decide +kernel
theorem dX2_add_27 : decode cX2_add 27 = .ok (.getfield 15, 3) := by decide +kernel
theorem dX2_add_30 : decode cX2_add 30 = .ok (.iload_n 2, 1) := by decide +kernel
theorem dX2_add_31 : decode cX2_add 31 = .ok (.iaload, 1) := by decide +kernel
theorem dX2_add_32 : decode cX2_add 32 = .ok (.iload_n 1, 1) := by decide +kernel
theorem dX2_add_33 : decode cX2_add 33 = .ok (.if_icmp .ne 4, 3) := by decide +kernel
theorem dX2_add_36 : decode cX2_add 36 = .ok (.return_, 1) := by decide +kernel
theorem dX2_add_37 : decode cX2_add 37 = .ok (.iload_n 2, 1) := by decide +kernel
theorem dX2_add_38 : decode cX2_add 38 = .ok (.iconst 1, 1) := by decide +kernel
theorem dX2_add_39 : decode cX2_add 39 = .ok (.iadd, 1) := by decide +kernel
theorem dX2_add_40 : decode cX2_add 40 = .ok (.sipush 1024, 3) := by decide +kernel
theorem dX2_add_43 : decode cX2_add 43 = .ok (.irem, 1) := by decide +kernel
theorem dX2_add_44 : decode cX2_add 44 = .ok (.istore_n 2, 1) := by decide +kernel
theorem dX2_add_45 : decode cX2_add 45 = .ok (.iinc 3 1, 3) := by decide +kernel
theorem dX2_add_48 : decode cX2_add 48 = .ok (.goto (-38), 3) := by decide +kernel
theorem dX2_add_51 : decode cX2_add 51 = .ok (.aload_n 0, 1) := by decide +kernel
theorem dX2_add_52 : decode cX2_add 52 = .ok (.getfield 24, 3) := by decide +kernel
theorem dX2_add_55 : decode cX2_add 55 = .ok (.sipush 400, 3) := by decide +kernel
theorem dX2_add_58 : decode cX2_add 58 = .ok (.if_icmp .ne 9, 3) := by decide +kernel
theorem dX2_add_61 : decode cX2_add 61 = .ok (.aload_n 0, 1) := by decide +kernel
theorem dX2_add_62 : decode cX2_add 62 = .ok (.iconst 1, 1) := by decide +kernel
theorem dX2_add_63 : decode cX2_add 63 = .ok (.putfield 28, 3) := by decide +kernel
theorem dX2_add_66 : decode cX2_add 66 = .ok (.return_, 1) := by decide +kernel
theorem dX2_add_67 : decode cX2_add 67 = .ok (.aload_n 0, 1) := by decide +kernel
theorem dX2_add_68 : decode cX2_add 68 = .ok (.getfield 15, 3) := by decide +kernel
theorem dX2_add_71 : decode cX2_add 71 = .ok (.iload_n 2, 1) := by decide +kernel
theorem dX2_add_72 : decode cX2_add 72 = .ok (.iload_n 1, 1) := by decide +kernel
theorem dX2_add_73 : decode cX2_add 73 = .ok (.iastore, 1) := by decide +kernel
theorem dX2_add_74 : decode cX2_add 74 = .ok (.aload_n 0, 1) := by decide +kernel
theorem dX2_add_75 : decode cX2_add 75 = .ok (.getfield 9, 3) := by decide +kernel
theorem dX2_add_78 : decode cX2_add 78 = .ok (.aload_n 0, 1) := by decide +kernel
theorem dX2_add_79 : decode cX2_add 79 = .ok (.getfield 24, 3) := by decide +kernel
theorem dX2_add_82 : decode cX2_add 82 = .ok (.iload_n 1, 1) := by decide +kernel
theorem dX2_add_83 : decode cX2_add 83 = .ok (.iastore, 1) := by decide +kernel
theorem dX2_add_84 : decode cX2_add 84 = .ok (.aload_n 0, 1) := by decide +kernel
theorem dX2_add_85 : decode cX2_add 85 = .ok (.dup, 1) := by decide +kernel
theorem dX2_add_86 : decode cX2_add 86 = .ok (.getfield 24, 3) := by decide +kernel
theorem dX2_add_89 : decode cX2_add 89 = .ok (.iconst 1, 1) := by decide +kernel
theorem dX2_add_90 : decode cX2_add 90 = .ok (.iadd, 1) := by decide +kernel
theorem dX2_add_91 : decode cX2_add 91 = .ok (.putfield 24, 3) := by decide +kernel
theorem dX2_add_94 : decode cX2_add 94 = .ok (.return_, 1) := by decide +kernel
theorem dX3_init_0 : decode cX3_init 0 = .ok (.aload_n 0, 1) := by decide +kernel
theorem dX3_init_1 : decode cX3_init 1 = .ok (.invokespecial 3, 3) := by decide +kernel
theorem dX3_init_4 : decode cX3_init 4 = .ok (.aload_n 0, 1) := by decide +kernel
theorem dX3_init_5 : decode cX3_init 5 = .ok (.bipush 101, 2) := by decide +kernel
theorem dX3_init_7 : decode cX3_init 7 = .ok (.newarray .int, 2) := by decide +kernel
theorem dX3_init_9 : decode cX3_init 9 = .ok (.putfield 9, 3) := by decide +kernel
theorem dX3_init_12 : decode cX3_init 12 = .ok (.aload_n 0, 1) := by decide +kernel
theorem dX3_init_13 : decode cX3_init 13 = .ok (.bipush 100, 2) := by decide +kernel
theorem dX3_init_15 : decode cX3_init 15 = .ok (.newarray .int, 2) := by decide +kernel
theorem dX3_init_17 : decode cX3_init 17 = .ok (.putfield 15, 3) := by decide +kernel
theorem dX3_init_20 : decode cX3_init 20 = .ok (.return_, 1) := by decide +kernel
set_option maxRecDepth 20000 in
theorem ggX3_run_X3_firstTimeOf : GoodIn wsX3_run wsX3_firstTimeOf := goodIn_r _ [10, 2, 1, 36, 37, 38, 39, 40] (by decide +kernel) (by decide +kernel)
set_option maxRecDepth 20000 in
theorem gX3_run_X3_firstTimeOf : GoodIn wsX3_run (wsV RX3 22 RX3 yX3_firstTimeOf wsX3_firstTimeOf) := goodIn_app (goodIn_of _ (by decide +kernel)) ggX3_run_X3_firstTimeOf
set_option maxRecDepth 20000 in
theorem ggX3_run_X4_choiceFor : GoodIn wsX3_run wsX4_choiceFor := goodIn_r _ [14, 15, 16, 17, 18, 19, 20, 21, 12, 22, 23, 24, 41, 42, 43, 44, 45, 46] (by decide +kernel) (by decide +kernel)
set_option maxRecDepth 20000 in
theorem gX3_run_X4_choiceFor_n32 : GoodIn wsX3_run (wsX4_choiceFor) := ggX3_run_X4_choiceFor
set_option maxRecDepth 20000 in
theorem ggX3_run_X4_ruleIn : GoodIn wsX3_run wsX4_ruleIn := goodIn_r _ [26] (by decide +kernel) (by decide +kernel)
set_option maxRecDepth 20000 in
theorem gX3_run_X4_ruleIn_n38 : GoodIn wsX3_run (wsX4_ruleIn) := ggX3_run_X4_ruleIn
set_option maxRecDepth 20000 in
theorem ggX3_run_X4_placeIn : GoodIn wsX3_run wsX4_placeIn := goodIn_r _ [28] (by decide +kernel) (by decide +kernel)
set_option maxRecDepth 20000 in
theorem gX3_run_X4_placeIn_n41 : GoodIn wsX3_run (wsX4_placeIn) := ggX3_run_X4_placeIn
set_option maxRecDepth 20000 in
theorem ggX3_run_X4_applied : GoodIn wsX3_run wsX4_applied := goodIn_r _ [31, 32, 33, 23, 16, 17, 18, 34, 35, 41, 42, 43, 44, 45, 46] (by decide +kernel) (by decide +kernel)
set_option maxRecDepth 20000 in
theorem gX3_run_X4_applied_n44 : GoodIn wsX3_run (wsX4_applied) := ggX3_run_X4_applied
theorem dX3_run_0 : decode cX3_run 0 = .ok (.aload_n 0, 1) := by decide +kernel
theorem dX3_run_1 : decode cX3_run 1 = .ok (.getfield 9, 3) := by decide +kernel
theorem dX3_run_4 : decode cX3_run 4 = .ok (.iconst 0, 1) := by decide +kernel
theorem dX3_run_5 : decode cX3_run 5 = .ok (.iload_n 3, 1) := by decide +kernel
theorem dX3_run_6 : decode cX3_run 6 = .ok (.iastore, 1) := by decide +kernel
theorem dX3_run_7 : decode cX3_run 7 = .ok (.aload_n 0, 1) := by decide +kernel
theorem dX3_run_8 : decode cX3_run 8 = .ok (.iconst 0, 1) := by decide +kernel
theorem dX3_run_9 : decode cX3_run 9 = .ok (.putfield 18, 3) := by decide +kernel
theorem dX3_run_12 : decode cX3_run 12 = .ok (.aload_n 0, 1) := by decide +kernel
theorem dX3_run_13 : decode cX3_run 13 = .ok (.getfield 18, 3) := by decide +kernel
theorem dX3_run_16 : decode cX3_run 16 = .ok (.bipush 100, 2) := by decide +kernel
theorem dX3_run_18 : decode cX3_run 18 = .ok (.if_icmp .gt 140, 3) := by decide +kernel
theorem dX3_run_21 : decode cX3_run 21 = .ok (.aload_n 0, 1) := by decide +kernel
theorem dX3_run_22 : decode cX3_run 22 = .ok (.aload_n 0, 1) := by decide +kernel
theorem dX3_run_23 : decode cX3_run 23 = .ok (.aload_n 0, 1) := by decide +kernel
theorem dX3_run_24 : decode cX3_run 24 = .ok (.getfield 9, 3) := by decide +kernel
theorem dX3_run_27 : decode cX3_run 27 = .ok (.aload_n 0, 1) := by decide +kernel
theorem dX3_run_28 : decode cX3_run 28 = .ok (.getfield 18, 3) := by decide +kernel
theorem dX3_run_31 : decode cX3_run 31 = .ok (.iaload, 1) := by decide +kernel
theorem dX3_run_32 : decode cX3_run 32 = .ok (.invokevirtual 22, 3) := by decide +kernel
theorem dX3_run_35 : decode cX3_run 35 = .ok (.putfield 26, 3) := by decide +kernel
theorem dX3_run_38 : decode cX3_run 38 = .ok (.aload_n 0, 1) := by decide +kernel
theorem dX3_run_39 : decode cX3_run 39 = .ok (.getfield 26, 3) := by decide +kernel
theorem dX3_run_42 : decode cX3_run 42 = .ok (.aload_n 0, 1) := by decide +kernel
theorem dX3_run_43 : decode cX3_run 43 = .ok (.getfield 18, 3) := by decide +kernel
theorem dX3_run_46 : decode cX3_run 46 = .ok (.if_icmp .ge 9, 3) := by decide +kernel
theorem dX3_run_49 : decode cX3_run 49 = .ok (.aload_n 0, 1) := by decide +kernel
theorem dX3_run_50 : decode cX3_run 50 = .ok (.iconst 1, 1) := by decide +kernel
theorem dX3_run_51 : decode cX3_run 51 = .ok (.putfield 29, 3) := by decide +kernel
theorem dX3_run_54 : decode cX3_run 54 = .ok (.return_, 1) := by decide +kernel
theorem dX3_run_55 : decode cX3_run 55 = .ok (.aload_n 1, 1) := by decide +kernel
theorem dX3_run_56 : decode cX3_run 56 = .ok (.aload_n 0, 1) := by decide +kernel
theorem dX3_run_57 : decode cX3_run 57 = .ok (.getfield 9, 3) := by decide +kernel
theorem dX3_run_60 : decode cX3_run 60 = .ok (.aload_n 0, 1) := by decide +kernel
theorem dX3_run_61 : decode cX3_run 61 = .ok (.getfield 18, 3) := by decide +kernel
theorem dX3_run_64 : decode cX3_run 64 = .ok (.iaload, 1) := by decide +kernel
theorem dX3_run_65 : decode cX3_run 65 = .ok (.iload_n 2, 1) := by decide +kernel
theorem dX3_run_66 : decode cX3_run 66 = .ok (.invokevirtual 32, 3) := by decide +kernel
theorem dX3_run_69 : decode cX3_run 69 = .ok (.istore 4, 2) := by decide +kernel
theorem dX3_run_71 : decode cX3_run 71 = .ok (.iload 4, 2) := by decide +kernel
theorem dX3_run_73 : decode cX3_run 73 = .ok (.ifCond .ge 9, 3) := by decide +kernel
theorem dX3_run_76 : decode cX3_run 76 = .ok (.aload_n 0, 1) := by decide +kernel
theorem dX3_run_77 : decode cX3_run 77 = .ok (.iconst 0, 1) := by decide +kernel
theorem dX3_run_78 : decode cX3_run 78 = .ok (.putfield 29, 3) := by decide +kernel
theorem dX3_run_81 : decode cX3_run 81 = .ok (.return_, 1) := by decide +kernel
theorem dX3_run_82 : decode cX3_run 82 = .ok (.aload_n 0, 1) := by decide +kernel
theorem dX3_run_83 : decode cX3_run 83 = .ok (.getfield 18, 3) := by decide +kernel
theorem dX3_run_86 : decode cX3_run 86 = .ok (.bipush 100, 2) := by decide +kernel
theorem dX3_run_88 : decode cX3_run 88 = .ok (.if_icmp .ne 9, 3) := by decide +kernel
theorem dX3_run_91 : decode cX3_run 91 = .ok (.aload_n 0, 1) := by decide +kernel
theorem dX3_run_92 : decode cX3_run 92 = .ok (.iconst 2, 1) := by decide +kernel
theorem dX3_run_93 : decode cX3_run 93 = .ok (.putfield 29, 3) := by decide +kernel
theorem dX3_run_96 : decode cX3_run 96 = .ok (.return_, 1) := by decide +kernel
theorem dX3_run_97 : decode cX3_run 97 = .ok (.aload_n 0, 1) := by decide +kernel
theorem dX3_run_98 : decode cX3_run 98 = .ok (.getfield 15, 3) := by decide +kernel
theorem dX3_run_101 : decode cX3_run 101 = .ok (.aload_n 0, 1) := by decide +kernel
theorem dX3_run_102 : decode cX3_run 102 = .ok (.getfield 18, 3) := by decide +kernel
theorem dX3_run_105 : decode cX3_run 105 = .ok (.iload 4, 2) := by decide +kernel
theorem dX3_run_107 : decode cX3_run 107 = .ok (.invokestatic 38, 3) := by decide +kernel
theorem dX3_run_110 : decode cX3_run 110 = .ok (.iastore, 1) := by decide +kernel
theorem dX3_run_111 : decode cX3_run 111 = .ok (.aload_n 0, 1) := by decide +kernel
theorem dX3_run_112 : decode cX3_run 112 = .ok (.getfield 9, 3) := by decide +kernel
theorem dX3_run_115 : decode cX3_run 115 = .ok (.aload_n 0, 1) := by decide +kernel
theorem dX3_run_116 : decode cX3_run 116 = .ok (.getfield 18, 3) := by decide +kernel
theorem dX3_run_119 : decode cX3_run 119 = .ok (.iconst 1, 1) := by decide +kernel
theorem dX3_run_120 : decode cX3_run 120 = .ok (.iadd, 1) := by decide +kernel
theorem dX3_run_121 : decode cX3_run 121 = .ok (.aload_n 1, 1) := by decide +kernel
theorem dX3_run_122 : decode cX3_run 122 = .ok (.aload_n 0, 1) := by decide +kernel
theorem dX3_run_123 : decode cX3_run 123 = .ok (.getfield 9, 3) := by decide +kernel
theorem dX3_run_126 : decode cX3_run 126 = .ok (.aload_n 0, 1) := by decide +kernel
theorem dX3_run_127 : decode cX3_run 127 = .ok (.getfield 18, 3) := by decide +kernel
theorem dX3_run_130 : decode cX3_run 130 = .ok (.iaload, 1) := by decide +kernel
theorem dX3_run_131 : decode cX3_run 131 = .ok (.iload 4, 2) := by decide +kernel
theorem dX3_run_133 : decode cX3_run 133 = .ok (.invokestatic 38, 3) := by decide +kernel
theorem dX3_run_136 : decode cX3_run 136 = .ok (.iload 4, 2) := by decide +kernel
theorem dX3_run_138 : decode cX3_run 138 = .ok (.invokestatic 41, 3) := by decide +kernel
theorem dX3_run_141 : decode cX3_run 141 = .ok (.invokevirtual 44, 3) := by decide +kernel
theorem dX3_run_144 : decode cX3_run 144 = .ok (.iastore, 1) := by decide +kernel
theorem dX3_run_145 : decode cX3_run 145 = .ok (.aload_n 0, 1) := by decide +kernel
theorem dX3_run_146 : decode cX3_run 146 = .ok (.dup, 1) := by decide +kernel
theorem dX3_run_147 : decode cX3_run 147 = .ok (.getfield 18, 3) := by decide +kernel
theorem dX3_run_150 : decode cX3_run 150 = .ok (.iconst 1, 1) := by decide +kernel
theorem dX3_run_151 : decode cX3_run 151 = .ok (.iadd, 1) := by decide +kernel
theorem dX3_run_152 : decode cX3_run 152 = .ok (.putfield 18, 3) := by decide +kernel
theorem dX3_run_155 : decode cX3_run 155 = .ok (.goto (-143), 3) := by decide +kernel
theorem dX3_run_158 : decode cX3_run 158 = .ok (.return_, 1) := by decide +kernel
theorem dX3_firstTimeOf_0 : decode cX3_firstTimeOf 0 = .ok (.iconst 0, 1) := by decide +kernel
theorem dX3_firstTimeOf_1 : decode cX3_firstTimeOf 1 = .ok (.istore_n 2, 1) := by decide +kernel
theorem dX3_firstTimeOf_2 : decode cX3_firstTimeOf 2 = .ok (.iload_n 2, 1) := by decide +kernel
theorem dX3_firstTimeOf_3 : decode cX3_firstTimeOf 3 = .ok (.aload_n 0, 1) := by decide +kernel
theorem dX3_firstTimeOf_4 : decode cX3_firstTimeOf 4 = .ok (.getfield 18, 3) := by decide +kernel
theorem dX3_firstTimeOf_7 : decode cX3_firstTimeOf 7 = .ok (.if_icmp .ge 21, 3) := by decide +kernel
theorem dX3_firstTimeOf_10 : decode cX3_firstTimeOf 10 = .ok (.aload_n 0, 1) := by decide +kernel
theorem dX3_firstTimeOf_11 : decode cX3_firstTimeOf 11 = .ok (.getfield 9, 3) := by decide +kernel
theorem dX3_firstTimeOf_14 : decode cX3_firstTimeOf 14 = .ok (.iload_n 2, 1) := by decide +kernel
theorem dX3_firstTimeOf_15 : decode cX3_firstTimeOf 15 = .ok (.iaload, 1) := by decide +kernel
theorem dX3_firstTimeOf_16 : decode cX3_firstTimeOf 16 = .ok (.iload_n 1, 1) := by decide +kernel
theorem dX3_firstTimeOf_17 : decode cX3_firstTimeOf 17 = .ok (.if_icmp .ne 5, 3) := by decide +kernel
theorem dX3_firstTimeOf_20 : decode cX3_firstTimeOf 20 = .ok (.iload_n 2, 1) := by decide +kernel
theorem dX3_firstTimeOf_21 : decode cX3_firstTimeOf 21 = .ok (.ireturn, 1) := by decide +kernel
theorem dX3_firstTimeOf_22 : decode cX3_firstTimeOf 22 = .ok (.iinc 2 1, 3) := by decide +kernel
theorem dX3_firstTimeOf_25 : decode cX3_firstTimeOf 25 = .ok (.goto (-23), 3) := by decide +kernel
theorem dX3_firstTimeOf_28 : decode cX3_firstTimeOf 28 = .ok (.aload_n 0, 1) := by decide +kernel
theorem dX3_firstTimeOf_29 : decode cX3_firstTimeOf 29 = .ok (.getfield 18, 3) := by decide +kernel
theorem dX3_firstTimeOf_32 : decode cX3_firstTimeOf 32 = .ok (.ireturn, 1) := by decide +kernel
theorem dX3_last_0 : decode cX3_last 0 = .ok (.aload_n 0, 1) := by decide +kernel
theorem dX3_last_1 : decode cX3_last 1 = .ok (.getfield 9, 3) := by decide +kernel
theorem dX3_last_4 : decode cX3_last 4 = .ok (.aload_n 0, 1) := by decide +kernel
theorem dX3_last_5 : decode cX3_last 5 = .ok (.getfield 18, 3) := by decide +kernel
theorem dX3_last_8 : decode cX3_last 8 = .ok (.iaload, 1) := by decide +kernel
theorem dX3_last_9 : decode cX3_last 9 = .ok (.ireturn, 1) := by decide +kernel
theorem dX3_countRules_0 : decode cX3_countRules 0 = .ok (.iconst 0, 1) := by decide +kernel
theorem dX3_countRules_1 : decode cX3_countRules 1 = .ok (.istore_n 2, 1) := by decide +kernel
theorem dX3_countRules_2 : decode cX3_countRules 2 = .ok (.iload_n 2, 1) := by decide +kernel
theorem dX3_countRules_3 : decode cX3_countRules 3 = .ok (.aload_n 0, 1) := by decide +kernel
theorem dX3_countRules_4 : decode cX3_countRules 4 = .ok (.getfield 18, 3) := by decide +kernel
theorem dX3_countRules_7 : decode cX3_countRules 7 = .ok (.if_icmp .ge 24, 3) := by decide +kernel
theorem dX3_countRules_10 : decode cX3_countRules 10 = .ok (.aload_n 1, 1) := by decide +kernel
theorem dX3_countRules_11 : decode cX3_countRules 11 = .ok (.getfield 48, 3) := by decide +kernel
theorem dX3_countRules_14 : decode cX3_countRules 14 = .ok (.aload_n 0, 1) := by decide +kernel
theorem dX3_countRules_15 : decode cX3_countRules 15 = .ok (.getfield 15, 3) := by decide +kernel
theorem dX3_countRules_18 : decode cX3_countRules 18 = .ok (.iload_n 2, 1) := by decide +kernel
theorem dX3_countRules_19 : decode cX3_countRules 19 = .ok (.iaload, 1) := by decide +kernel
theorem dX3_countRules_20 : decode cX3_countRules 20 = .ok (.dup2, 1) := by decide +kernel
theorem dX3_countRules_21 : decode cX3_countRules 21 = .ok (.iaload, 1) := by decide +kernel
theorem dX3_countRules_22 : decode cX3_countRules 22 = .ok (.iconst 1, 1) := by decide +kernel
theorem dX3_countRules_23 : decode cX3_countRules 23 = .ok (.iadd, 1) := by decide +kernel
theorem dX3_countRules_24 : decode cX3_countRules 24 = .ok (.iastore, 1) := by decide +kernel
theorem dX3_countRules_25 : decode cX3_countRules 25 = .ok (.iinc 2 1, 3) := by decide +kernel
theorem dX3_countRules_28 : decode cX3_countRules 28 = .ok (.goto (-26), 3) := by decide +kernel
theorem dX3_countRules_31 : decode cX3_countRules 31 = .ok (.return_, 1) := by decide +kernel
theorem dX4_init_0 : decode cX4_init 0 = .ok (.aload_n 0, 1) := by decide +kernel
theorem dX4_init_1 : decode cX4_init 1 = .ok (.invokespecial 3, 3) := by decide +kernel
theorem dX4_init_4 : decode cX4_init 4 = .ok (.aload_n 0, 1) := by decide +kernel
theorem dX4_init_5 : decode cX4_init 5 = .ok (.bipush 10, 2) := by decide +kernel
theorem dX4_init_7 : decode cX4_init 7 = .ok (.newarray .int, 2) := by decide +kernel
theorem dX4_init_9 : decode cX4_init 9 = .ok (.putfield 9, 3) := by decide +kernel
theorem dX4_init_12 : decode cX4_init 12 = .ok (.aload_n 0, 1) := by decide +kernel
theorem dX4_init_13 : decode cX4_init 13 = .ok (.bipush 10, 2) := by decide +kernel
theorem dX4_init_15 : decode cX4_init 15 = .ok (.newarray .int, 2) := by decide +kernel
theorem dX4_init_17 : decode cX4_init 17 = .ok (.putfield 15, 3) := by decide +kernel
theorem dX4_init_20 : decode cX4_init 20 = .ok (.aload_n 0, 1) := by decide +kernel
theorem dX4_init_21 : decode cX4_init 21 = .ok (.bipush 10, 2) := by decide +kernel
theorem dX4_init_23 : decode cX4_init 23 = .ok (.newarray .int, 2) := by decide +kernel
theorem dX4_init_25 : decode cX4_init 25 = .ok (.putfield 18, 3) := by decide +kernel
theorem dX4_init_28 : decode cX4_init 28 = .ok (.aload_n 0, 1) := by decide +kernel
theorem dX4_init_29 : decode cX4_init 29 = .ok (.bipush 10, 2) := by decide +kernel
theorem dX4_init_31 : decode cX4_init 31 = .ok (.newarray .int, 2) := by decide +kernel
theorem dX4_init_33 : decode cX4_init 33 = .ok (.putfield 21, 3) := by decide +kernel
theorem dX4_init_36 : decode cX4_init 36 = .ok (.aload_n 0, 1) := by decide +kernel
theorem dX4_init_37 : decode cX4_init 37 = .ok (.bipush 10, 2) := by decide +kernel
theorem dX4_init_39 : decode cX4_init 39 = .ok (.newarray .int, 2) := by decide +kernel
theorem dX4_init_41 : decode cX4_init 41 = .ok (.putfield 24, 3) := by decide +kernel
theorem dX4_init_44 : decode cX4_init 44 = .ok (.return_, 1) := by decide +kernel
theorem dX4_takeOver_0 : decode cX4_takeOver 0 = .ok (.aload_n 1, 1) := by decide +kernel
theorem dX4_takeOver_1 : decode cX4_takeOver 1 = .ok (.getfield 9, 3) := by decide +kernel
theorem dX4_takeOver_4 : decode cX4_takeOver 4 = .ok (.iconst 0, 1) := by decide +kernel
theorem dX4_takeOver_5 : decode cX4_takeOver 5 = .ok (.aload_n 0, 1) := by decide +kernel
theorem dX4_takeOver_6 : decode cX4_takeOver 6 = .ok (.getfield 9, 3) := by decide +kernel
theorem dX4_takeOver_9 : decode cX4_takeOver 9 = .ok (.iconst 0, 1) := by decide +kernel
theorem dX4_takeOver_10 : decode cX4_takeOver 10 = .ok (.bipush 10, 2) := by decide +kernel
theorem dX4_takeOver_12 : decode cX4_takeOver 12 = .ok (.invokestatic 27, 3) := by decide +kernel
theorem dX4_takeOver_15 : decode cX4_takeOver 15 = .ok (.aload_n 1, 1) := by decide +kernel
theorem dX4_takeOver_16 : decode cX4_takeOver 16 = .ok (.getfield 15, 3) := by decide +kernel
theorem dX4_takeOver_19 : decode cX4_takeOver 19 = .ok (.iconst 0, 1) := by decide +kernel
theorem dX4_takeOver_20 : decode cX4_takeOver 20 = .ok (.aload_n 0, 1) := by decide +kernel
theorem dX4_takeOver_21 : decode cX4_takeOver 21 = .ok (.getfield 15, 3) := by decide +kernel
theorem dX4_takeOver_24 : decode cX4_takeOver 24 = .ok (.iconst 0, 1) := by decide +kernel
theorem dX4_takeOver_25 : decode cX4_takeOver 25 = .ok (.bipush 10, 2) := by decide +kernel
theorem dX4_takeOver_27 : decode cX4_takeOver 27 = .ok (.invokestatic 27, 3) := by decide +kernel
theorem dX4_takeOver_30 : decode cX4_takeOver 30 = .ok (.aload_n 1, 1) := by decide +kernel
theorem dX4_takeOver_31 : decode cX4_takeOver 31 = .ok (.getfield 18, 3) := by decide +kernel
theorem dX4_takeOver_34 : decode cX4_takeOver 34 = .ok (.iconst 0, 1) := by decide +kernel
theorem dX4_takeOver_35 : decode cX4_takeOver 35 = .ok (.aload_n 0, 1) := by decide +kernel
theorem dX4_takeOver_36 : decode cX4_takeOver 36 = .ok (.getfield 18, 3) := by decide +kernel
theorem dX4_takeOver_39 : decode cX4_takeOver 39 = .ok (.iconst 0, 1) := by decide +kernel
theorem dX4_takeOver_40 : decode cX4_takeOver 40 = .ok (.bipush 10, 2) := by decide +kernel
theorem dX4_takeOver_42 : decode cX4_takeOver 42 = .ok (.invokestatic 27, 3) := by decide +kernel
theorem dX4_takeOver_45 : decode cX4_takeOver 45 = .ok (.aload_n 1, 1) := by decide +kernel
theorem dX4_takeOver_46 : decode cX4_takeOver 46 = .ok (.getfield 21, 3) := by decide +kernel
theorem dX4_takeOver_49 : decode cX4_takeOver 49 = .ok (.iconst 0, 1) := by decide +kernel
theorem dX4_takeOver_50 : decode cX4_takeOver 50 = .ok (.aload_n 0, 1) := by decide +kernel
theorem dX4_takeOver_51 : decode cX4_takeOver 51 = .ok (.getfield 21, 3) := by decide +kernel
theorem dX4_takeOver_54 : decode cX4_takeOver 54 = .ok (.iconst 0, 1) := by decide +kernel
theorem dX4_takeOver_55 : decode cX4_takeOver 55 = .ok (.bipush 10, 2) := by decide +kernel
theorem dX4_takeOver_57 : decode cX4_takeOver 57 = .ok (.invokestatic 27, 3) := by decide +kernel
theorem dX4_takeOver_60 : decode cX4_takeOver 60 = .ok (.aload_n 1, 1) := by decide +kernel
theorem dX4_takeOver_61 : decode cX4_takeOver 61 = .ok (.getfield 24, 3) := by decide +kernel
theorem dX4_takeOver_64 : decode cX4_takeOver 64 = .ok (.iconst 0, 1) := by decide +kernel
theorem dX4_takeOver_65 : decode cX4_takeOver 65 = .ok (.aload_n 0, 1) := by decide +kernel
theorem dX4_takeOver_66 : decode cX4_takeOver 66 = .ok (.getfield 24, 3) := by decide +kernel
theorem dX4_takeOver_69 : decode cX4_takeOver 69 = .ok (.iconst 0, 1) := by decide +kernel
theorem dX4_takeOver_70 : decode cX4_takeOver 70 = .ok (.bipush 10, 2) := by decide +kernel
theorem dX4_takeOver_72 : decode cX4_takeOver 72 = .ok (.invokestatic 27, 3) := by decide +kernel
theorem dX4_takeOver_75 : decode cX4_takeOver 75 = .ok (.aload_n 0, 1) := by decide +kernel
theorem dX4_takeOver_76 : decode cX4_takeOver 76 = .ok (.aload_n 1, 1) := by decide +kernel
theorem dX4_takeOver_77 : decode cX4_takeOver 77 = .ok (.getfield 33, 3) := by decide +kernel
theorem dX4_takeOver_80 : decode cX4_takeOver 80 = .ok (.putfield 33, 3) := by decide +kernel
theorem dX4_takeOver_83 : decode cX4_takeOver 83 = .ok (.return_, 1) := by decide +kernel
theorem dX4_contains_0 : decode cX4_contains 0 = .ok (.iload_n 1, 1) := by decide +kernel
theorem dX4_contains_1 : decode cX4_contains 1 = .ok (.ifCond .lt 15, 3) := by decide +kernel
theorem dX4_contains_4 : decode cX4_contains 4 = .ok (.iload_n 1, 1) := by decide +kernel
theorem dX4_contains_5 : decode cX4_contains 5 = .ok (.aload_n 0, 1) := by decide +kernel
theorem dX4_contains_6 : decode cX4_contains 6 = .ok (.getfield 33, 3) := by decide +kernel
theorem dX4_contains_9 : decode cX4_contains 9 = .ok (.if_icmp .ge 7, 3) := by decide +kernel
theorem dX4_contains_12 : decode cX4_contains 12 = .ok (.iconst 1, 1) := by decide +kernel
theorem dX4_contains_13 : decode cX4_contains 13 = .ok (.goto 4, 3) := by decide +kernel
theorem dX4_contains_16 : decode cX4_contains 16 = .ok (.iconst 0, 1) := by decide +kernel
theorem dX4_contains_17 : decode cX4_contains 17 = .ok (.ireturn, 1) := by decide +kernel
theorem dX4_isFull_0 : decode cX4_isFull 0 = .ok (.aload_n 0, 1) := by decide +kernel
theorem dX4_isFull_1 : decode cX4_isFull 1 = .ok (.getfield 33, 3) := by decide +kernel
theorem dX4_isFull_4 : decode cX4_isFull 4 = .ok (.bipush 10, 2) := by decide +kernel
theorem dX4_isFull_6 : decode cX4_isFull 6 = .ok (.if_icmp .lt 7, 3) := by decide +kernel
theorem dX4_isFull_9 : decode cX4_isFull 9 = .ok (.iconst 1, 1) := by decide +kernel
theorem dX4_isFull_10 : decode cX4_isFull 10 = .ok (.goto 4, 3) := by decide +kernel
theorem dX4_isFull_13 : decode cX4_isFull 13 = .ok (.iconst 0, 1) := by decide +kernel
theorem dX4_isFull_14 : decode cX4_isFull 14 = .ok (.ireturn, 1) := by decide +kernel
theorem dX4_hasSides_0 : decode cX4_hasSides 0 = .ok (.iconst 0, 1) := by decide +kernel
theorem dX4_hasSides_1 : decode cX4_hasSides 1 = .ok (.istore_n 3, 1) := by decide +kernel
theorem dX4_hasSides_2 : decode cX4_hasSides 2 = .ok (.iload_n 3, 1) := by decide +kernel
theorem dX4_hasSides_3 : decode cX4_hasSides 3 = .ok (.aload_n 0, 1) := by decide +kernel
theorem dX4_hasSides_4 : decode cX4_hasSides 4 = .ok (.getfield 33, 3) := by decide +kernel
theorem dX4_hasSides_7 : decode cX4_hasSides 7 = .ok (.if_icmp .ge 31, 3) := by decide +kernel
theorem dX4_hasSides_10 : decode cX4_hasSides 10 = .ok (.aload_n 0, 1) := by decide +kernel
theorem dX4_hasSides_11 : decode cX4_hasSides 11 = .ok (.getfield 9, 3) := by decide +kernel
theorem dX4_hasSides_14 : decode cX4_hasSides 14 = .ok (.iload_n 3, 1) := by decide +kernel
theorem dX4_hasSides_15 : decode cX4_hasSides 15 = .ok (.iaload, 1) := by decide +kernel
theorem dX4_hasSides_16 : decode cX4_hasSides 16 = .ok (.iload_n 1, 1) := by decide +kernel
theorem dX4_hasSides_17 : decode cX4_hasSides 17 = .ok (.if_icmp .ne 15, 3) := by decide +kernel
theorem dX4_hasSides_20 : decode cX4_hasSides 20 = .ok (.aload_n 0, 1) := by decide +kernel
theorem dX4_hasSides_21 : decode cX4_hasSides 21 = .ok (.getfield 15, 3) := by decide +kernel
theorem dX4_hasSides_24 : decode cX4_hasSides 24 = .ok (.iload_n 3, 1) := by decide +kernel
theorem dX4_hasSides_25 : decode cX4_hasSides 25 = .ok (.iaload, 1) := by decide +kernel
theorem dX4_hasSides_26 : decode cX4_hasSides 26 = .ok (.iload_n 2, 1) := by decide +kernel
theorem dX4_hasSides_27 : decode cX4_hasSides 27 = .ok (.if_icmp .ne 5, 3) := by decide +kernel
theorem dX4_hasSides_30 : decode cX4_hasSides 30 = .ok (.iconst 1, 1) := by decide +kernel
theorem dX4_hasSides_31 : decode cX4_hasSides 31 = .ok (.ireturn, 1) := by decide +kernel
theorem dX4_hasSides_32 : decode cX4_hasSides 32 = .ok (.iinc 3 1, 3) := by decide +kernel
theorem dX4_hasSides_35 : decode cX4_hasSides 35 = .ok (.goto (-33), 3) := by decide +kernel
theorem dX4_hasSides_38 : decode cX4_hasSides 38 = .ok (.iconst 0, 1) := by decide +kernel
theorem dX4_hasSides_39 : decode cX4_hasSides 39 = .ok (.ireturn, 1) := by decide +kernel
set_option maxRecDepth 20000 in
theorem ggX4_add_X4_isFull : GoodIn wsX4_add wsX4_isFull := goodIn_r _ [11, 2, 15, 16, 17, 18, 19, 20] (by decide +kernel) (by decide +kernel)
set_option maxRecDepth 20000 in
theorem gX4_add_X4_isFull : GoodIn wsX4_add (wsV RX4 37 RX4 yX4_isFull wsX4_isFull) := goodIn_app (goodIn_of _ (by decide +kernel)) ggX4_add_X4_isFull
set_option maxRecDepth 20000 in
theorem ggX4_add_X9_lengthOf : GoodIn wsX4_add wsX9_lengthOf := goodIn_r _ [14] (by decide +kernel) (by decide +kernel)
set_option maxRecDepth 20000 in
theorem gX4_add_X9_lengthOf_n41 : GoodIn wsX4_add (wsX9_lengthOf) := ggX4_add_X9_lengthOf
theorem dX4_add_0 : decode cX4_add 0 = .ok (.aload_n 0, 1) := by decide +kernel
theorem dX4_add_1 : decode cX4_add 1 = .ok (.invokevirtual 37, 3) := by decide +kernel
theorem dX4_add_4 : decode cX4_add 4 = .ok (.ifCond .eq 4, 3) := by decide +kernel
theorem dX4_add_7 : decode cX4_add 7 = .ok (.return_, 1) := by decide +kernel
theorem dX4_add_8 : decode cX4_add 8 = .ok (.aload_n 0, 1) := by decide +kernel
theorem dX4_add_9 : decode cX4_add 9 = .ok (.getfield 9, 3) := by decide +kernel
theorem dX4_add_12 : decode cX4_add 12 = .ok (.aload_n 0, 1) := by decide +kernel
theorem dX4_add_13 : decode cX4_add 13 = .ok (.getfield 33, 3) := by decide +kernel
theorem dX4_add_16 : decode cX4_add 16 = .ok (.iload_n 1, 1) := by decide +kernel
theorem dX4_add_17 : decode cX4_add 17 = .ok (.iastore, 1) := by decide +kernel
theorem dX4_add_18 : decode cX4_add 18 = .ok (.aload_n 0, 1) := by decide +kernel
theorem dX4_add_19 : decode cX4_add 19 = .ok (.getfield 15, 3) := by decide +kernel
theorem dX4_add_22 : decode cX4_add 22 = .ok (.aload_n 0, 1) := by decide +kernel
theorem dX4_add_23 : decode cX4_add 23 = .ok (.getfield 33, 3) := by decide +kernel
theorem dX4_add_26 : decode cX4_add 26 = .ok (.iload_n 2, 1) := by decide +kernel
theorem dX4_add_27 : decode cX4_add 27 = .ok (.iastore, 1) := by decide +kernel
theorem dX4_add_28 : decode cX4_add 28 = .ok (.aload_n 0, 1) := by decide +kernel
theorem dX4_add_29 : decode cX4_add 29 = .ok (.getfield 18, 3) := by decide +kernel
theorem dX4_add_32 : decode cX4_add 32 = .ok (.aload_n 0, 1) := by decide +kernel
theorem dX4_add_33 : decode cX4_add 33 = .ok (.getfield 33, 3) := by decide +kernel
theorem dX4_add_36 : decode cX4_add 36 = .ok (.iload_n 1, 1) := by decide +kernel
theorem dX4_add_37 : decode cX4_add 37 = .ok (.invokestatic 41, 3) := by decide +kernel
theorem dX4_add_40 : decode cX4_add 40 = .ok (.iastore, 1) := by decide +kernel
theorem dX4_add_41 : decode cX4_add 41 = .ok (.aload_n 0, 1) := by decide +kernel
theorem dX4_add_42 : decode cX4_add 42 = .ok (.getfield 21, 3) := by decide +kernel
theorem dX4_add_45 : decode cX4_add 45 = .ok (.aload_n 0, 1) := by decide +kernel
theorem dX4_add_46 : decode cX4_add 46 = .ok (.getfield 33, 3) := by decide +kernel
theorem dX4_add_49 : decode cX4_add 49 = .ok (.iload_n 2, 1) := by decide +kernel
theorem dX4_add_50 : decode cX4_add 50 = .ok (.invokestatic 41, 3) := by decide +kernel
theorem dX4_add_53 : decode cX4_add 53 = .ok (.iastore, 1) := by decide +kernel
theorem dX4_add_54 : decode cX4_add 54 = .ok (.aload_n 0, 1) := by decide +kernel
theorem dX4_add_55 : decode cX4_add 55 = .ok (.getfield 24, 3) := by decide +kernel
theorem dX4_add_58 : decode cX4_add 58 = .ok (.aload_n 0, 1) := by decide +kernel
theorem dX4_add_59 : decode cX4_add 59 = .ok (.getfield 33, 3) := by decide +kernel
theorem dX4_add_62 : decode cX4_add 62 = .ok (.iconst 0, 1) := by decide +kernel
theorem dX4_add_63 : decode cX4_add 63 = .ok (.iastore, 1) := by decide +kernel
theorem dX4_add_64 : decode cX4_add 64 = .ok (.aload_n 0, 1) := by decide +kernel
theorem dX4_add_65 : decode cX4_add 65 = .ok (.dup, 1) := by decide +kernel
theorem dX4_add_66 : decode cX4_add 66 = .ok (.getfield 33, 3) := by decide +kernel
theorem dX4_add_69 : decode cX4_add 69 = .ok (.iconst 1, 1) := by decide +kernel
theorem dX4_add_70 : decode cX4_add 70 = .ok (.iadd, 1) := by decide +kernel
theorem dX4_add_71 : decode cX4_add 71 = .ok (.putfield 33, 3) := by decide +kernel
theorem dX4_add_74 : decode cX4_add 74 = .ok (.return_, 1) := by decide +kernel
set_option maxRecDepth 20000 in
theorem ggX4_remove_X4_contains : GoodIn wsX4_remove wsX4_contains := goodIn_r _ [11, 1, 12, 13, 14, 15, 16, 17] (by decide +kernel) (by decide +kernel)
set_option maxRecDepth 20000 in
theorem gX4_remove_X4_contains : GoodIn wsX4_remove (wsV RX4 47 RX4 yX4_contains wsX4_contains) := goodIn_app (goodIn_of _ (by decide +kernel)) ggX4_remove_X4_contains
theorem dX4_remove_0 : decode cX4_remove 0 = .ok (.aload_n 0, 1) := by decide +kernel
theorem dX4_remove_1 : decode cX4_remove 1 = .ok (.iload_n 1, 1) := by decide +kernel
theorem dX4_remove_2 : decode cX4_remove 2 = .ok (.invokevirtual 47, 3) := by decide +kernel
theorem dX4_remove_5 : decode cX4_remove 5 = .ok (.ifCond .ne 4, 3) := by decide +kernel
theorem dX4_remove_8 : decode cX4_remove 8 = .ok (.return_, 1) := by decide +kernel
theorem dX4_remove_9 : decode cX4_remove 9 = .ok (.iload_n 1, 1) := by decide +kernel
theorem dX4_remove_10 : decode cX4_remove 10 = .ok (.istore_n 2, 1) := by decide +kernel
theorem dX4_remove_11 : decode cX4_remove 11 = .ok (.iload_n 2, 1) := by decide +kernel
theorem dX4_remove_12 : decode cX4_remove 12 = .ok (.iconst 1, 1) := by decide +kernel
theorem dX4_remove_13 : decode cX4_remove 13 = .ok (.iadd, 1) := by decide +kernel
theorem dX4_remove_14 : decode cX4_remove 14 = .ok (.aload_n 0, 1) := by decide +kernel
