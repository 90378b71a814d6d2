/-! ===== BEGIN words of one list among another's, by their places ===== -/
theorem goodIn_r {big : List Cond} (ws : List Cond) (ps : List Nat) (hp : ws = ps.filterMap (fun i => big[i]?)) (h : ws.all goodWord = true) : GoodIn big ws := by
  intro w hw
  have h1 := List.all_eq_true.mp h w hw
  rw [hp] at hw
  obtain ⟨i, -, hi⟩ := List.mem_filterMap.mp hw
  have hm : w ∈ big := by first | exact List.mem_of_getElem? hi | exact List.getElem?_mem hi
  exact ⟨hm, good_of_word h1⟩
theorem goodIn_app {big a b : List Cond} (ha : GoodIn big a) (hb : GoodIn big b) : GoodIn big (a ++ b) := fun w h => (List.mem_append.mp h).elim (ha w) (hb w)
theorem goodIn_ca {big a b : List Cond} {c : Cond} (ha : GoodIn big (c :: a)) (hb : GoodIn big b) : GoodIn big (c :: (a ++ b)) := fun w h => (List.mem_cons.mp h).elim (fun e => ha w (List.mem_cons.mpr (Or.inl e))) (fun h => (List.mem_append.mp h).elim (fun h => ha w (List.mem_cons.mpr (Or.inr h))) (hb w))
theorem goodIn_sub {big ws : List Cond} (hm : ∀ w ∈ ws, w ∈ big) (h : ws.all goodWord = true) : GoodIn big ws := fun w hw => ⟨hm w hw, good_of_word (List.all_eq_true.mp h w hw)⟩
/-! ===== END ===== -/

/-! ===== BEGIN printed: names, fields, word lists, decode rows ===== -/
def RX0 : String := "BiteFirst$Cover"
def TX0 : u_T := fun k => match k with
  | _ => ("BiteFirst$Cover", "fewestOf", "[I", true)
def tyX0 : Nat → FieldType := fun k => match k with
  | _ => .array .int
abbrev wsX00 : List Cond := u_ws RX0 TX0 1
theorem nmX0 : ∀ a, a < 1 → ∀ b, b < 1 → a ≠ b → (TX0 a).2.1 ≠ (TX0 b).2.1 := by decide +kernel
theorem tyX0_ok : ∀ k, k < 1 → parseFieldDescriptor (TX0 k).2.2.1 = some (tyX0 k) := by decide +kernel
abbrev cX0_init : ByteArray := prog_2_method_1_code
def yX0_init : MethodName := ⟨RX0, "<init>", "()V"⟩
abbrev cX0_fewestBites : ByteArray := prog_2_method_2_code
def yX0_fewestBites : MethodName := ⟨RX0, "fewestBites", "(II)I"⟩
def RX1 : String := "BiteFirst$Eater"
def TX1 : u_T := fun k => match k with
  | 0 => ("BiteFirst$Eater", "kind", "I", false)
  | 1 => ("BiteFirst$Eater", "more", "I", false)
  | 2 => ("BiteFirst$Eater", "jaw", "I", false)
  | 3 => ("BiteFirst$Eater", "purse", "I", false)
  | _ => ("BiteFirst$Eater", "had", "I", false)
def tyX1 : Nat → FieldType := fun k => match k with
  | 0 => .int
  | 1 => .int
  | 2 => .int
  | 3 => .int
  | _ => .int
abbrev wsX10 : List Cond := u_ws RX1 TX1 5
theorem nmX1 : ∀ a, a < 5 → ∀ b, b < 5 → a ≠ b → (TX1 a).2.1 ≠ (TX1 b).2.1 := by decide +kernel
theorem tyX1_ok : ∀ k, k < 5 → parseFieldDescriptor (TX1 k).2.2.1 = some (tyX1 k) := by decide +kernel
abbrev cX1_init : ByteArray := prog_3_method_1_code
def yX1_init : MethodName := ⟨RX1, "<init>", "()V"⟩
abbrev cX1_come : ByteArray := prog_3_method_2_code
def yX1_come : MethodName := ⟨RX1, "come", "(III)V"⟩
abbrev cX1_become : ByteArray := prog_3_method_3_code
def yX1_become : MethodName := ⟨RX1, "become", "(LBiteFirst$Eater;)V"⟩
abbrev cX1_isOf : ByteArray := prog_3_method_4_code
def yX1_isOf : MethodName := ⟨RX1, "isOf", "(I)Z"⟩
abbrev cX1_markOf : ByteArray := prog_3_method_5_code
def yX1_markOf : MethodName := ⟨RX1, "markOf", "(LBiteFirst$Good;I)I"⟩
abbrev cX1_canLeave : ByteArray := prog_3_method_6_code
def yX1_canLeave : MethodName := ⟨RX1, "canLeave", "(LBiteFirst$Good;I)Z"⟩
abbrev cX1_shapeIn : ByteArray := prog_3_method_7_code
def yX1_shapeIn : MethodName := ⟨RX1, "shapeIn", "(LBiteFirst$Good;)I"⟩
abbrev cX1_paysFor : ByteArray := prog_3_method_8_code
def yX1_paysFor : MethodName := ⟨RX1, "paysFor", "(LBiteFirst$Good;I)I"⟩
abbrev cX1_likesCell : ByteArray := prog_3_method_9_code
def yX1_likesCell : MethodName := ⟨RX1, "likesCell", "(I)I"⟩
abbrev cX1_swallow : ByteArray := prog_3_method_10_code
def yX1_swallow : MethodName := ⟨RX1, "swallow", "(LBiteFirst$Good;III)V"⟩
abbrev cX1_giveBack : ByteArray := prog_3_method_11_code
def yX1_giveBack : MethodName := ⟨RX1, "giveBack", "(LBiteFirst$Good;III)V"⟩
def RX2 : String := "BiteFirst$Fitting"
def TX2 : u_T := fun k => match k with
  | 0 => ("BiteFirst$Fitting", "fitted", "LBiteFirst$Eater;", true)
  | _ => ("BiteFirst$Fitting", "gain", "I", false)
def tyX2 : Nat → FieldType := fun k => match k with
  | 0 => .object "BiteFirst$Eater"
  | _ => .int
abbrev wsX20 : List Cond := u_ws RX2 TX2 2
theorem nmX2 : ∀ a, a < 2 → ∀ b, b < 2 → a ≠ b → (TX2 a).2.1 ≠ (TX2 b).2.1 := by decide +kernel
theorem tyX2_ok : ∀ k, k < 2 → parseFieldDescriptor (TX2 k).2.2.1 = some (tyX2 k) := by decide +kernel
abbrev cX2_init : ByteArray := prog_4_method_1_code
def yX2_init : MethodName := ⟨RX2, "<init>", "()V"⟩
abbrev cX2_findTeeth : ByteArray := prog_4_method_2_code
def yX2_findTeeth : MethodName := ⟨RX2, "findTeeth", "(LBiteFirst$Scene;LBiteFirst$Eater;)I"⟩
abbrev cX2_kindsLeaving : ByteArray := prog_4_method_3_code
def yX2_kindsLeaving : MethodName := ⟨RX2, "kindsLeaving", "(LBiteFirst$Eater;LBiteFirst$Good;I)I"⟩
abbrev cX2_moresLeaving : ByteArray := prog_4_method_4_code
def yX2_moresLeaving : MethodName := ⟨RX2, "moresLeaving", "(LBiteFirst$Eater;LBiteFirst$Good;I)I"⟩
abbrev cX2_countJaws : ByteArray := prog_4_method_5_code
def yX2_countJaws : MethodName := ⟨RX2, "countJaws", "(LBiteFirst$Eater;LBiteFirst$Good;I)I"⟩
abbrev cX2_leastJaw : ByteArray := prog_4_method_6_code
def yX2_leastJaw : MethodName := ⟨RX2, "leastJaw", "(LBiteFirst$Eater;LBiteFirst$Good;I)I"⟩
def RX3 : String := "BiteFirst$Good"
def TX3 : u_T := fun k => match k with
  | 0 => ("BiteFirst$Good", "worths", "[I", true)
  | 1 => ("BiteFirst$Good", "soft", "I", false)
  | _ => ("BiteFirst$Good", "left", "I", false)
def tyX3 : Nat → FieldType := fun k => match k with
  | 0 => .array .int
  | 1 => .int
  | _ => .int
abbrev wsX30 : List Cond := u_ws RX3 TX3 3
theorem nmX3 : ∀ a, a < 3 → ∀ b, b < 3 → a ≠ b → (TX3 a).2.1 ≠ (TX3 b).2.1 := by decide +kernel
theorem tyX3_ok : ∀ k, k < 3 → parseFieldDescriptor (TX3 k).2.2.1 = some (tyX3 k) := by decide +kernel
abbrev cX3_init : ByteArray := prog_5_method_1_code
def yX3_init : MethodName := ⟨RX3, "<init>", "()V"⟩
abbrev cX3_mostOf : ByteArray := prog_5_method_2_code
def yX3_mostOf : MethodName := ⟨RX3, "mostOf", "(I)I"⟩
abbrev cX3_come : ByteArray := prog_5_method_3_code
def yX3_come : MethodName := ⟨RX3, "come", "(II)V"⟩
abbrev cX3_become : ByteArray := prog_5_method_4_code
def yX3_become : MethodName := ⟨RX3, "become", "(LBiteFirst$Good;)V"⟩
abbrev cX3_readPart : ByteArray := prog_5_method_5_code
def yX3_readPart : MethodName := ⟨RX3, "readPart", "(I)I"⟩
abbrev cX3_writePart : ByteArray := prog_5_method_6_code
def yX3_writePart : MethodName := ⟨RX3, "writePart", "(II)V"⟩
abbrev cX3_worthOfCells : ByteArray := prog_5_method_7_code
def yX3_worthOfCells : MethodName := ⟨RX3, "worthOfCells", "(I)I"⟩
def RX4 : String := "BiteFirst$Scene"
def TX4 : u_T := fun k => match k with
  | 0 => ("BiteFirst$Scene", "eaters", "[LBiteFirst$Eater;", true)
  | 1 => ("BiteFirst$Scene", "goods", "[LBiteFirst$Good;", true)
  | 2 => ("BiteFirst$Scene", "eaterCount", "I", false)
  | 3 => ("BiteFirst$Scene", "goodCount", "I", false)
  | 4 => ("BiteFirst$Scene", "day", "I", false)
  | 5 => ("BiteFirst$Scene", "law", "LBiteFirst$Text;", false)
  | 6 => ("BiteFirst$Scene", "bestBite", "I", false)
  | 7 => ("BiteFirst$Scene", "bestGain", "I", false)
  | 8 => ("BiteFirst$Scene", "gain", "I", false)
  | _ => ("BiteFirst$Scene", "names", "[I", true)
def tyX4 : Nat → FieldType := fun k => match k with
  | 0 => .array (.object "BiteFirst$Eater")
  | 1 => .array (.object "BiteFirst$Good")
  | 2 => .int
  | 3 => .int
  | 4 => .int
  | 5 => .object "BiteFirst$Text"
  | 6 => .int
  | 7 => .int
  | 8 => .int
  | _ => .array .int
abbrev wsX40 : List Cond := u_ws RX4 TX4 10
theorem nmX4 : ∀ a, a < 10 → ∀ b, b < 10 → a ≠ b → (TX4 a).2.1 ≠ (TX4 b).2.1 := by decide +kernel
theorem tyX4_ok : ∀ k, k < 10 → parseFieldDescriptor (TX4 k).2.2.1 = some (tyX4 k) := by decide +kernel
abbrev cX4_init : ByteArray := prog_6_method_1_code
def yX4_init : MethodName := ⟨RX4, "<init>", "(LBiteFirst$Text;)V"⟩
abbrev cX4_become : ByteArray := prog_6_method_2_code
def yX4_become : MethodName := ⟨RX4, "become", "(LBiteFirst$Scene;)V"⟩
abbrev cX4_eaterAt : ByteArray := prog_6_method_3_code
def yX4_eaterAt : MethodName := ⟨RX4, "eaterAt", "(I)LBiteFirst$Eater;"⟩
abbrev cX4_goodAt : ByteArray := prog_6_method_4_code
def yX4_goodAt : MethodName := ⟨RX4, "goodAt", "(I)LBiteFirst$Good;"⟩
abbrev cX4_addEater : ByteArray := prog_6_method_5_code
def yX4_addEater : MethodName := ⟨RX4, "addEater", "(III)I"⟩
abbrev cX4_addGood : ByteArray := prog_6_method_6_code
def yX4_addGood : MethodName := ⟨RX4, "addGood", "(II)I"⟩
abbrev cX4_said : ByteArray := prog_6_method_7_code
def yX4_said : MethodName := ⟨RX4, "said", "(ILBiteFirst$Eater;LBiteFirst$Good;II)I"⟩
abbrev cX4_costOf : ByteArray := prog_6_method_8_code
def yX4_costOf : MethodName := ⟨RX4, "costOf", "(LBiteFirst$Eater;LBiteFirst$Good;I)I"⟩
abbrev cX4_worthOf : ByteArray := prog_6_method_9_code
def yX4_worthOf : MethodName := ⟨RX4, "worthOf", "(LBiteFirst$Eater;LBiteFirst$Good;I)I"⟩
abbrev cX4_leastGain : ByteArray := prog_6_method_10_code
def yX4_leastGain : MethodName := ⟨RX4, "leastGain", "(LBiteFirst$Eater;LBiteFirst$Good;I)I"⟩
abbrev cX4_tryBite : ByteArray := prog_6_method_11_code
def yX4_tryBite : MethodName := ⟨RX4, "tryBite", "(LBiteFirst$Eater;LBiteFirst$Good;I)Z"⟩
abbrev cX4_tellBite : ByteArray := prog_6_method_12_code
def yX4_tellBite : MethodName := ⟨RX4, "tellBite", "(I)I"⟩
abbrev cX4_findBest : ByteArray := prog_6_method_13_code
def yX4_findBest : MethodName := ⟨RX4, "findBest", "(LBiteFirst$Eater;)V"⟩
abbrev cX4_goodOfBest : ByteArray := prog_6_method_14_code
def yX4_goodOfBest : MethodName := ⟨RX4, "goodOfBest", "()LBiteFirst$Good;"⟩
abbrev cX4_placeOfBest : ByteArray := prog_6_method_15_code
def yX4_placeOfBest : MethodName := ⟨RX4, "placeOfBest", "()I"⟩
def RX5 : String := "BiteFirst$Sheet"
def TX5 : u_T := fun k => match k with
  | 0 => ("BiteFirst$Sheet", "sort", "I", false)
  | 1 => ("BiteFirst$Sheet", "size", "I", false)
  | _ => ("BiteFirst$Sheet", "numbers", "[I", true)
def tyX5 : Nat → FieldType := fun k => match k with
  | 0 => .int
  | 1 => .int
  | _ => .array .int
abbrev wsX50 : List Cond := u_ws RX5 TX5 3
theorem nmX5 : ∀ a, a < 3 → ∀ b, b < 3 → a ≠ b → (TX5 a).2.1 ≠ (TX5 b).2.1 := by decide +kernel
theorem tyX5_ok : ∀ k, k < 3 → parseFieldDescriptor (TX5 k).2.2.1 = some (tyX5 k) := by decide +kernel
abbrev cX5_init : ByteArray := prog_7_method_1_code
def yX5_init : MethodName := ⟨RX5, "<init>", "()V"⟩
abbrev cX5_becomeRow : ByteArray := prog_7_method_2_code
def yX5_becomeRow : MethodName := ⟨RX5, "becomeRow", "(II)V"⟩
abbrev cX5_write : ByteArray := prog_7_method_3_code
def yX5_write : MethodName := ⟨RX5, "write", "(II)V"⟩
abbrev cX5_add : ByteArray := prog_7_method_4_code
def yX5_add : MethodName := ⟨RX5, "add", "(I)V"⟩
def RX6 : String := "BiteFirst$Tape"
def TX6 : u_T := fun k => match k with
  | 0 => ("BiteFirst$Tape", "bytes", "[I", true)
  | 1 => ("BiteFirst$Tape", "size", "I", false)
  | 2 => ("BiteFirst$Tape", "next", "I", false)
  | 3 => ("BiteFirst$Tape", "token", "I", false)
  | 4 => ("BiteFirst$Tape", "tokenAt", "I", false)
  | 5 => ("BiteFirst$Tape", "number", "I", false)
  | 6 => ("BiteFirst$Tape", "fault", "I", false)
  | 7 => ("BiteFirst$Tape", "steps", "[I", true)
  | 8 => ("BiteFirst$Tape", "stepCount", "I", false)
  | 9 => ("BiteFirst$Tape", "likesFrom", "I", false)
  | _ => ("BiteFirst$Tape", "waitsFrom", "I", false)
def tyX6 : Nat → FieldType := fun k => match k with
  | 0 => .array .int
  | 1 => .int
  | 2 => .int
  | 3 => .int
  | 4 => .int
  | 5 => .int
  | 6 => .int
  | 7 => .array .int
  | 8 => .int
  | 9 => .int
  | _ => .int
abbrev wsX60 : List Cond := u_ws RX6 TX6 11
theorem nmX6 : ∀ a, a < 11 → ∀ b, b < 11 → a ≠ b → (TX6 a).2.1 ≠ (TX6 b).2.1 := by decide +kernel
theorem tyX6_ok : ∀ k, k < 11 → parseFieldDescriptor (TX6 k).2.2.1 = some (tyX6 k) := by decide +kernel
abbrev cX6_init : ByteArray := prog_8_method_1_code
def yX6_init : MethodName := ⟨RX6, "<init>", "()V"⟩
abbrev cX6_size : ByteArray := prog_8_method_2_code
def yX6_size : MethodName := ⟨RX6, "size", "()I"⟩
abbrev cX6_room : ByteArray := prog_8_method_3_code
def yX6_room : MethodName := ⟨RX6, "room", "()I"⟩
abbrev cX6_add : ByteArray := prog_8_method_4_code
def yX6_add : MethodName := ⟨RX6, "add", "(I)V"⟩
abbrev cX6_write : ByteArray := prog_8_method_5_code
def yX6_write : MethodName := ⟨RX6, "write", "(Ljava/lang/String;)V"⟩
abbrev cX6_clear : ByteArray := prog_8_method_6_code
def yX6_clear : MethodName := ⟨RX6, "clear", "()V"⟩
abbrev cX6_findFault : ByteArray := prog_8_method_7_code
def yX6_findFault : MethodName := ⟨RX6, "findFault", "()I"⟩
abbrev cX6_made : ByteArray := prog_8_method_8_code
def yX6_made : MethodName := ⟨RX6, "made", "(I)LBiteFirst$Text;"⟩
abbrev cX6_readRank : ByteArray := prog_8_method_9_code
def yX6_readRank : MethodName := ⟨RX6, "readRank", "(II)V"⟩
abbrev cX6_readOne : ByteArray := prog_8_method_10_code
def yX6_readOne : MethodName := ⟨RX6, "readOne", "(I)V"⟩
abbrev cX6_mayOpen : ByteArray := prog_8_method_11_code
def yX6_mayOpen : MethodName := ⟨RX6, "mayOpen", "(I)Z"⟩
abbrev cX6_expect : ByteArray := prog_8_method_12_code
def yX6_expect : MethodName := ⟨RX6, "expect", "(I)V"⟩
abbrev cX6_emit : ByteArray := prog_8_method_13_code
def yX6_emit : MethodName := ⟨RX6, "emit", "(I)V"⟩
abbrev cX6_fail : ByteArray := prog_8_method_14_code
def yX6_fail : MethodName := ⟨RX6, "fail", "()V"⟩
abbrev cX6_advance : ByteArray := prog_8_method_15_code
def yX6_advance : MethodName := ⟨RX6, "advance", "()V"⟩
abbrev cX6_readNumber : ByteArray := prog_8_method_16_code
def yX6_readNumber : MethodName := ⟨RX6, "readNumber", "()V"⟩
abbrev cX6_wordToken : ByteArray := prog_8_method_17_code
def yX6_wordToken : MethodName := ⟨RX6, "wordToken", "()I"⟩
abbrev cX6_isWord : ByteArray := prog_8_method_18_code
def yX6_isWord : MethodName := ⟨RX6, "isWord", "(Ljava/lang/String;)Z"⟩
abbrev cX6_isLetter : ByteArray := prog_8_method_19_code
def yX6_isLetter : MethodName := ⟨RX6, "isLetter", "(I)Z"⟩
abbrev cX6_isDigit : ByteArray := prog_8_method_20_code
def yX6_isDigit : MethodName := ⟨RX6, "isDigit", "(I)Z"⟩
def RX7 : String := "BiteFirst$Text"
def TX7 : u_T := fun k => match k with
  | 0 => ("BiteFirst$Text", "number", "I", true)
  | 1 => ("BiteFirst$Text", "steps", "[I", true)
  | 2 => ("BiteFirst$Text", "likesFrom", "I", true)
  | 3 => ("BiteFirst$Text", "waitsFrom", "I", true)
  | _ => ("BiteFirst$Text", "stack", "[I", true)
def tyX7 : Nat → FieldType := fun k => match k with
  | 0 => .int
  | 1 => .array .int
  | 2 => .int
  | 3 => .int
  | _ => .array .int
abbrev wsX70 : List Cond := u_ws RX7 TX7 5
theorem nmX7 : ∀ a, a < 5 → ∀ b, b < 5 → a ≠ b → (TX7 a).2.1 ≠ (TX7 b).2.1 := by decide +kernel
theorem tyX7_ok : ∀ k, k < 5 → parseFieldDescriptor (TX7 k).2.2.1 = some (tyX7 k) := by decide +kernel
abbrev cX7_init : ByteArray := prog_9_method_1_code
def yX7_init : MethodName := ⟨RX7, "<init>", "(I[III)V"⟩
abbrev cX7_says : ByteArray := prog_9_method_2_code
def yX7_says : MethodName := ⟨RX7, "says", "(I[I)I"⟩
abbrev cX7_join : ByteArray := prog_9_method_3_code
def yX7_join : MethodName := ⟨RX7, "join", "(III)I"⟩
def RX8 : String := "BiteFirst$Thought"
def TX8 : u_T := fun k => match k with
  | 0 => ("BiteFirst$Thought", "scene", "LBiteFirst$Scene;", true)
  | 1 => ("BiteFirst$Thought", "order", "I", false)
  | 2 => ("BiteFirst$Thought", "orderGains", "I", false)
  | _ => ("BiteFirst$Thought", "duelBite", "I", false)
def tyX8 : Nat → FieldType := fun k => match k with
  | 0 => .object "BiteFirst$Scene"
  | 1 => .int
  | 2 => .int
  | _ => .int
abbrev wsX80 : List Cond := u_ws RX8 TX8 4
theorem nmX8 : ∀ a, a < 4 → ∀ b, b < 4 → a ≠ b → (TX8 a).2.1 ≠ (TX8 b).2.1 := by decide +kernel
theorem tyX8_ok : ∀ k, k < 4 → parseFieldDescriptor (TX8 k).2.2.1 = some (tyX8 k) := by decide +kernel
abbrev cX8_init : ByteArray := prog_10_method_1_code
def yX8_init : MethodName := ⟨RX8, "<init>", "(LBiteFirst$Text;)V"⟩
abbrev cX8_startFrom : ByteArray := prog_10_method_2_code
def yX8_startFrom : MethodName := ⟨RX8, "startFrom", "(LBiteFirst$Scene;)V"⟩
abbrev cX8_tryOrders : ByteArray := prog_10_method_3_code
def yX8_tryOrders : MethodName := ⟨RX8, "tryOrders", "(IIII)V"⟩
abbrev cX8_tryNext : ByteArray := prog_10_method_4_code
def yX8_tryNext : MethodName := ⟨RX8, "tryNext", "(IIIII)V"⟩
abbrev cX8_tryDuel : ByteArray := prog_10_method_5_code
def yX8_tryDuel : MethodName := ⟨RX8, "tryDuel", "(LBiteFirst$Eater;LBiteFirst$Eater;I)I"⟩
abbrev cX8_tryTurn : ByteArray := prog_10_method_6_code
def yX8_tryTurn : MethodName := ⟨RX8, "tryTurn", "(LBiteFirst$Eater;LBiteFirst$Eater;II)I"⟩
abbrev cX8_followDay : ByteArray := prog_10_method_7_code
def yX8_followDay : MethodName := ⟨RX8, "followDay", "(LBiteFirst$Sheet;)I"⟩
abbrev cX8_takeTurns : ByteArray := prog_10_method_8_code
def yX8_takeTurns : MethodName := ⟨RX8, "takeTurns", "(ILBiteFirst$Sheet;)I"⟩
abbrev cX8_drawDay : ByteArray := prog_10_method_9_code
def yX8_drawDay : MethodName := ⟨RX8, "drawDay", "(II)V"⟩
def RX9 : String := "BiteFirst$Token"
def TX9 : u_T := fun k => match k with
  | _ => ("", "", "", false)
def tyX9 : Nat → FieldType := fun k => match k with
  | _ => .int
abbrev wsX90 : List Cond := u_ws RX9 TX9 0
theorem nmX9 : ∀ a, a < 0 → ∀ b, b < 0 → a ≠ b → (TX9 a).2.1 ≠ (TX9 b).2.1 := by decide +kernel
theorem tyX9_ok : ∀ k, k < 0 → parseFieldDescriptor (TX9 k).2.2.1 = some (tyX9 k) := by decide +kernel
abbrev cX9_isSign : ByteArray := prog_11_method_2_code
def yX9_isSign : MethodName := ⟨RX9, "isSign", "(I)Z"⟩
abbrev cX9_rankOf : ByteArray := prog_11_method_3_code
def yX9_rankOf : MethodName := ⟨RX9, "rankOf", "(I)I"⟩
def RX10 : String := "BiteFirst"
def TX10 : u_T := fun k => match k with
  | 0 => ("BiteFirst", "tape", "LBiteFirst$Tape;", true)
  | 1 => ("BiteFirst", "texts", "[LBiteFirst$Text;", true)
  | 2 => ("BiteFirst", "textCount", "I", false)
  | 3 => ("BiteFirst", "now", "LBiteFirst$Scene;", true)
  | 4 => ("BiteFirst", "imaged", "LBiteFirst$Scene;", true)
  | 5 => ("BiteFirst", "hasImage", "Z", false)
  | 6 => ("BiteFirst", "thought", "LBiteFirst$Thought;", true)
  | 7 => ("BiteFirst", "fitting", "LBiteFirst$Fitting;", true)
  | 8 => ("BiteFirst", "cover", "LBiteFirst$Cover;", true)
  | _ => ("BiteFirst", "sheets", "[LBiteFirst$Sheet;", true)
def tyX10 : Nat → FieldType := fun k => match k with
  | 0 => .object "BiteFirst$Tape"
  | 1 => .array (.object "BiteFirst$Text")
  | 2 => .int
  | 3 => .object "BiteFirst$Scene"
  | 4 => .object "BiteFirst$Scene"
  | 5 => .boolean
  | 6 => .object "BiteFirst$Thought"
  | 7 => .object "BiteFirst$Fitting"
  | 8 => .object "BiteFirst$Cover"
  | _ => .array (.object "BiteFirst$Sheet")
abbrev wsX100 : List Cond := u_ws RX10 TX10 10
theorem nmX10 : ∀ a, a < 10 → ∀ b, b < 10 → a ≠ b → (TX10 a).2.1 ≠ (TX10 b).2.1 := by decide +kernel
theorem tyX10_ok : ∀ k, k < 10 → parseFieldDescriptor (TX10 k).2.2.1 = some (tyX10 k) := by decide +kernel
abbrev cX10_init : ByteArray := prog_1_method_1_code
def yX10_init : MethodName := ⟨RX10, "<init>", "()V"⟩
abbrev cX10_count : ByteArray := prog_1_method_2_code
def yX10_count : MethodName := ⟨RX10, "count", "(I)I"⟩
abbrev cX10_set : ByteArray := prog_1_method_3_code
def yX10_set : MethodName := ⟨RX10, "set", "(I)I"⟩
abbrev cX10_feed : ByteArray := prog_1_method_4_code
def yX10_feed : MethodName := ⟨RX10, "feed", "(IIIIII)I"⟩
abbrev cX10_text : ByteArray := prog_1_method_5_code
def yX10_text : MethodName := ⟨RX10, "text", "()I"⟩
abbrev cX10_force : ByteArray := prog_1_method_6_code
def yX10_force : MethodName := ⟨RX10, "force", "(I)I"⟩
abbrev cX10_asks : ByteArray := prog_1_method_7_code
def yX10_asks : MethodName := ⟨RX10, "asks", "(IIII)I"⟩
abbrev cX10_good : ByteArray := prog_1_method_8_code
def yX10_good : MethodName := ⟨RX10, "good", "(II)I"⟩
abbrev cX10_put : ByteArray := prog_1_method_9_code
def yX10_put : MethodName := ⟨RX10, "put", "(III)I"⟩
abbrev cX10_part : ByteArray := prog_1_method_10_code
def yX10_part : MethodName := ⟨RX10, "part", "(II)I"⟩
abbrev cX10_eater : ByteArray := prog_1_method_11_code
def yX10_eater : MethodName := ⟨RX10, "eater", "(II)I"⟩
abbrev cX10_told : ByteArray := prog_1_method_12_code
def yX10_told : MethodName := ⟨RX10, "told", "(II)I"⟩
abbrev cX10_lend : ByteArray := prog_1_method_13_code
def yX10_lend : MethodName := ⟨RX10, "lend", "(III)I"⟩
abbrev cX10_shape : ByteArray := prog_1_method_14_code
def yX10_shape : MethodName := ⟨RX10, "shape", "(II)I"⟩
abbrev cX10_mark : ByteArray := prog_1_method_15_code
def yX10_mark : MethodName := ⟨RX10, "mark", "(IIII)I"⟩
abbrev cX10_bite : ByteArray := prog_1_method_16_code
def yX10_bite : MethodName := ⟨RX10, "bite", "(III)I"⟩
abbrev cX10_best : ByteArray := prog_1_method_17_code
def yX10_best : MethodName := ⟨RX10, "best", "(II)I"⟩
abbrev cX10_orderly : ByteArray := prog_1_method_18_code
def yX10_orderly : MethodName := ⟨RX10, "orderly", "(I)I"⟩
abbrev cX10_duel : ByteArray := prog_1_method_19_code
def yX10_duel : MethodName := ⟨RX10, "duel", "(IIII)I"⟩
abbrev cX10_fewest : ByteArray := prog_1_method_20_code
def yX10_fewest : MethodName := ⟨RX10, "fewest", "(II)I"⟩
abbrev cX10_soonest : ByteArray := prog_1_method_21_code
def yX10_soonest : MethodName := ⟨RX10, "soonest", "(II)I"⟩
abbrev cX10_hire : ByteArray := prog_1_method_22_code
def yX10_hire : MethodName := ⟨RX10, "hire", "(II)I"⟩
abbrev cX10_whose : ByteArray := prog_1_method_23_code
def yX10_whose : MethodName := ⟨RX10, "whose", "(II)I"⟩
abbrev cX10_kinds : ByteArray := prog_1_method_24_code
def yX10_kinds : MethodName := ⟨RX10, "kinds", "(IIII)I"⟩
abbrev cX10_judge : ByteArray := prog_1_method_25_code
def yX10_judge : MethodName := ⟨RX10, "judge", "(I)I"⟩
abbrev cX10_ends : ByteArray := prog_1_method_26_code
def yX10_ends : MethodName := ⟨RX10, "ends", "(III)I"⟩
abbrev cX10_laws : ByteArray := prog_1_method_27_code
def yX10_laws : MethodName := ⟨RX10, "laws", "(I)I"⟩
abbrev cX10_film : ByteArray := prog_1_method_28_code
def yX10_film : MethodName := ⟨RX10, "film", "(II)I"⟩
abbrev cX10_drawn : ByteArray := prog_1_method_29_code
def yX10_drawn : MethodName := ⟨RX10, "drawn", "(IIII)I"⟩
abbrev cX10_odds : ByteArray := prog_1_method_30_code
def yX10_odds : MethodName := ⟨RX10, "odds", "(IIIII)J"⟩
abbrev cX10_image : ByteArray := prog_1_method_31_code
def yX10_image : MethodName := ⟨RX10, "image", "()I"⟩
abbrev cX10_back : ByteArray := prog_1_method_32_code
def yX10_back : MethodName := ⟨RX10, "back", "()I"⟩
abbrev cX10_sheet : ByteArray := prog_1_method_33_code
def yX10_sheet : MethodName := ⟨RX10, "sheet", "(III)I"⟩
abbrev cX10_cell : ByteArray := prog_1_method_34_code
def yX10_cell : MethodName := ⟨RX10, "cell", "(III)I"⟩
abbrev cX10_copy : ByteArray := prog_1_method_35_code
def yX10_copy : MethodName := ⟨RX10, "copy", "(IIIII)I"⟩
abbrev cX10_eatersBy : ByteArray := prog_1_method_36_code
def yX10_eatersBy : MethodName := ⟨RX10, "eatersBy", "(IIII)I"⟩
abbrev cX10_taken : ByteArray := prog_1_method_37_code
def yX10_taken : MethodName := ⟨RX10, "taken", "(II)I"⟩
abbrev cX10_within : ByteArray := prog_1_method_38_code
def yX10_within : MethodName := ⟨RX10, "within", "(III)Z"⟩
abbrev cX10_isByte : ByteArray := prog_1_method_39_code
def yX10_isByte : MethodName := ⟨RX10, "isByte", "(I)Z"⟩
abbrev cX10_isPlace : ByteArray := prog_1_method_40_code
def yX10_isPlace : MethodName := ⟨RX10, "isPlace", "(I)Z"⟩
abbrev cX10_isMarkOf : ByteArray := prog_1_method_41_code
def yX10_isMarkOf : MethodName := ⟨RX10, "isMarkOf", "(LBiteFirst$Good;I)Z"⟩
abbrev cX10_commonDivisor : ByteArray := prog_1_method_42_code
def yX10_commonDivisor : MethodName := ⟨RX10, "commonDivisor", "(II)I"⟩
abbrev cX10_textAt : ByteArray := prog_1_method_43_code
def yX10_textAt : MethodName := ⟨RX10, "textAt", "(I)LBiteFirst$Text;"⟩
abbrev cX10_sheetAt : ByteArray := prog_1_method_44_code
def yX10_sheetAt : MethodName := ⟨RX10, "sheetAt", "(I)LBiteFirst$Sheet;"⟩
abbrev cX10_comeEater : ByteArray := prog_1_method_45_code
def yX10_comeEater : MethodName := ⟨RX10, "comeEater", "(II)I"⟩
abbrev cX10_refusalOfDay : ByteArray := prog_1_method_46_code
def yX10_refusalOfDay : MethodName := ⟨RX10, "refusalOfDay", "(I)I"⟩
def RX11 : String := "BiteFirstModel"
def TX11 : u_T := fun k => match k with
  | 0 => ("BiteFirstModel", "goods", "I", false)
  | 1 => ("BiteFirstModel", "parts", "[I", true)
  | 2 => ("BiteFirstModel", "eaters", "I", false)
  | 3 => ("BiteFirstModel", "kind", "[I", true)
  | 4 => ("BiteFirstModel", "moreOf", "[I", true)
  | 5 => ("BiteFirstModel", "rows", "[I", true)
  | 6 => ("BiteFirstModel", "day0", "I", false)
  | 7 => ("BiteFirstModel", "tape", "[I", true)
  | 8 => ("BiteFirstModel", "taped", "I", false)
  | 9 => ("BiteFirstModel", "codes", "[I", true)
  | 10 => ("BiteFirstModel", "starts", "[I", true)
  | 11 => ("BiteFirstModel", "texts", "I", false)
  | 12 => ("BiteFirstModel", "rule", "I", false)
  | 13 => ("BiteFirstModel", "hasImage", "Z", false)
  | 14 => ("BiteFirstModel", "imageParts", "[I", true)
  | 15 => ("BiteFirstModel", "imageRows", "[I", true)
  | 16 => ("BiteFirstModel", "imageHeld", "[I", true)
  | 17 => ("BiteFirstModel", "sheetSort", "[I", true)
  | 18 => ("BiteFirstModel", "sheetSize", "[I", true)
  | 19 => ("BiteFirstModel", "cells", "[I", true)
  | 20 => ("BiteFirstModel", "law", "[I", true)
  | 21 => ("BiteFirstModel", "at", "I", false)
  | 22 => ("BiteFirstModel", "begun", "I", false)
  | 23 => ("BiteFirstModel", "token", "I", false)
  | 24 => ("BiteFirstModel", "value", "I", false)
  | 25 => ("BiteFirstModel", "words", "[I", true)
  | 26 => ("BiteFirstModel", "held", "[I", true)
  | 27 => ("BiteFirstModel", "heldMany", "I", false)
  | 28 => ("BiteFirstModel", "opens", "I", false)
  | 29 => ("BiteFirstModel", "out", "I", false)
  | 30 => ("BiteFirstModel", "stack", "[I", true)
  | 31 => ("BiteFirstModel", "named", "[I", true)
  | 32 => ("BiteFirstModel", "bestGain", "I", false)
  | 33 => ("BiteFirstModel", "kept", "[I", true)
  | 34 => ("BiteFirstModel", "order", "[I", true)
  | 35 => ("BiteFirstModel", "few", "[I", true)
  | 36 => ("BiteFirstModel", "lotHad", "I", false)
  | _ => ("BiteFirstModel", "lotPurse", "I", false)
def tyX11 : Nat → FieldType := fun k => match k with
  | 0 => .int
  | 1 => .array .int
  | 2 => .int
  | 3 => .array .int
  | 4 => .array .int
  | 5 => .array .int
  | 6 => .int
  | 7 => .array .int
  | 8 => .int
  | 9 => .array .int
  | 10 => .array .int
  | 11 => .int
  | 12 => .int
  | 13 => .boolean
  | 14 => .array .int
  | 15 => .array .int
  | 16 => .array .int
  | 17 => .array .int
  | 18 => .array .int
  | 19 => .array .int
  | 20 => .array .int
  | 21 => .int
  | 22 => .int
  | 23 => .int
  | 24 => .int
  | 25 => .array .int
  | 26 => .array .int
  | 27 => .int
  | 28 => .int
  | 29 => .int
  | 30 => .array .int
  | 31 => .array .int
  | 32 => .int
  | 33 => .array .int
  | 34 => .array .int
  | 35 => .array .int
  | 36 => .int
  | _ => .int
abbrev wsX110 : List Cond := u_ws RX11 TX11 38
theorem nmX11 : ∀ a, a < 38 → ∀ b, b < 38 → a ≠ b → (TX11 a).2.1 ≠ (TX11 b).2.1 := by decide +kernel
theorem tyX11_ok : ∀ k, k < 38 → parseFieldDescriptor (TX11 k).2.2.1 = some (tyX11 k) := by decide +kernel
abbrev cX11_init : ByteArray := prog_13_method_1_code
def yX11_init : MethodName := ⟨RX11, "<init>", "()V"⟩
abbrev cX11_in : ByteArray := prog_13_method_3_code
def yX11_in : MethodName := ⟨RX11, "in", "(III)Z"⟩
abbrev cX11_within : ByteArray := prog_13_method_4_code
def yX11_within : MethodName := ⟨RX11, "within", "(III)I"⟩
abbrev cX11_ones : ByteArray := prog_13_method_5_code
def yX11_ones : MethodName := ⟨RX11, "ones", "(I)I"⟩
abbrev cX11_isEater : ByteArray := prog_13_method_6_code
def yX11_isEater : MethodName := ⟨RX11, "isEater", "(I)Z"⟩
abbrev cX11_isGood : ByteArray := prog_13_method_7_code
def yX11_isGood : MethodName := ⟨RX11, "isGood", "(I)Z"⟩
abbrev cX11_isPlace : ByteArray := prog_13_method_8_code
def yX11_isPlace : MethodName := ⟨RX11, "isPlace", "(I)Z"⟩
abbrev cX11_count : ByteArray := prog_13_method_9_code
def yX11_count : MethodName := ⟨RX11, "count", "(I)I"⟩
abbrev cX11_set : ByteArray := prog_13_method_10_code
def yX11_set : MethodName := ⟨RX11, "set", "(I)I"⟩
abbrev cX11_isByte : ByteArray := prog_13_method_11_code
def yX11_isByte : MethodName := ⟨RX11, "isByte", "(I)Z"⟩
abbrev cX11_feed : ByteArray := prog_13_method_12_code
def yX11_feed : MethodName := ⟨RX11, "feed", "(IIIIII)I"⟩
abbrev cX11_wordFrom : ByteArray := prog_13_method_13_code
def yX11_wordFrom : MethodName := ⟨RX11, "wordFrom", "(II)I"⟩
abbrev cX11_next : ByteArray := prog_13_method_14_code
def yX11_next : MethodName := ⟨RX11, "next", "()V"⟩
abbrev cX11_rank : ByteArray := prog_13_method_15_code
def yX11_rank : MethodName := ⟨RX11, "rank", "(I)I"⟩
abbrev cX11_puts : ByteArray := prog_13_method_16_code
def yX11_puts : MethodName := ⟨RX11, "puts", "(I)V"⟩
abbrev cX11_unwinds : ByteArray := prog_13_method_17_code
def yX11_unwinds : MethodName := ⟨RX11, "unwinds", "(I)V"⟩
abbrev cX11_holds : ByteArray := prog_13_method_18_code
def yX11_holds : MethodName := ⟨RX11, "holds", "(I)V"⟩
abbrev cX11_opensOne : ByteArray := prog_13_method_19_code
def yX11_opensOne : MethodName := ⟨RX11, "opensOne", "(I)Z"⟩
abbrev cX11_between : ByteArray := prog_13_method_20_code
def yX11_between : MethodName := ⟨RX11, "between", "(I)Z"⟩
abbrev cX11_signOf : ByteArray := prog_13_method_21_code
def yX11_signOf : MethodName := ⟨RX11, "signOf", "()I"⟩
abbrev cX11_eRead : ByteArray := prog_13_method_22_code
def yX11_eRead : MethodName := ⟨RX11, "eRead", "()Z"⟩
abbrev cX11_text : ByteArray := prog_13_method_23_code
def yX11_text : MethodName := ⟨RX11, "text", "()I"⟩
abbrev cX11_two : ByteArray := prog_13_method_24_code
def yX11_two : MethodName := ⟨RX11, "two", "(III)I"⟩
abbrev cX11_says : ByteArray := prog_13_method_25_code
def yX11_says : MethodName := ⟨RX11, "says", "(I)I"⟩
abbrev cX11_force : ByteArray := prog_13_method_26_code
def yX11_force : MethodName := ⟨RX11, "force", "(I)I"⟩
abbrev cX11_leftOf : ByteArray := prog_13_method_27_code
def yX11_leftOf : MethodName := ⟨RX11, "leftOf", "(I)I"⟩
abbrev cX11_softOf : ByteArray := prog_13_method_28_code
def yX11_softOf : MethodName := ⟨RX11, "softOf", "(I)I"⟩
abbrev cX11_asksOf : ByteArray := prog_13_method_29_code
def yX11_asksOf : MethodName := ⟨RX11, "asksOf", "(IIIII)I"⟩
abbrev cX11_asks : ByteArray := prog_13_method_30_code
def yX11_asks : MethodName := ⟨RX11, "asks", "(IIII)I"⟩
abbrev cX11_good : ByteArray := prog_13_method_31_code
def yX11_good : MethodName := ⟨RX11, "good", "(II)I"⟩
abbrev cX11_put : ByteArray := prog_13_method_32_code
def yX11_put : MethodName := ⟨RX11, "put", "(III)I"⟩
abbrev cX11_part : ByteArray := prog_13_method_33_code
def yX11_part : MethodName := ⟨RX11, "part", "(II)I"⟩
abbrev cX11_eater : ByteArray := prog_13_method_34_code
def yX11_eater : MethodName := ⟨RX11, "eater", "(II)I"⟩
abbrev cX11_told : ByteArray := prog_13_method_35_code
def yX11_told : MethodName := ⟨RX11, "told", "(II)I"⟩
abbrev cX11_lend : ByteArray := prog_13_method_36_code
def yX11_lend : MethodName := ⟨RX11, "lend", "(III)I"⟩
abbrev cX11_shapeOf : ByteArray := prog_13_method_37_code
def yX11_shapeOf : MethodName := ⟨RX11, "shapeOf", "(II)I"⟩
abbrev cX11_shape : ByteArray := prog_13_method_38_code
def yX11_shape : MethodName := ⟨RX11, "shape", "(II)I"⟩
abbrev cX11_markBy : ByteArray := prog_13_method_39_code
def yX11_markBy : MethodName := ⟨RX11, "markBy", "(III)I"⟩
abbrev cX11_markOf : ByteArray := prog_13_method_40_code
def yX11_markOf : MethodName := ⟨RX11, "markOf", "(III)I"⟩
abbrev cX11_worthAll : ByteArray := prog_13_method_41_code
def yX11_worthAll : MethodName := ⟨RX11, "worthAll", "(II)I"⟩
abbrev cX11_costsOf : ByteArray := prog_13_method_42_code
def yX11_costsOf : MethodName := ⟨RX11, "costsOf", "(III)I"⟩
abbrev cX11_likesOf : ByteArray := prog_13_method_43_code
def yX11_likesOf : MethodName := ⟨RX11, "likesOf", "(III)I"⟩
abbrev cX11_canBe : ByteArray := prog_13_method_44_code
def yX11_canBe : MethodName := ⟨RX11, "canBe", "(III)Z"⟩
abbrev cX11_mark : ByteArray := prog_13_method_45_code
def yX11_mark : MethodName := ⟨RX11, "mark", "(IIII)I"⟩
abbrev cX11_bites : ByteArray := prog_13_method_46_code
def yX11_bites : MethodName := ⟨RX11, "bites", "(III)I"⟩
abbrev cX11_bite : ByteArray := prog_13_method_47_code
def yX11_bite : MethodName := ⟨RX11, "bite", "(III)I"⟩
abbrev cX11_bestOf : ByteArray := prog_13_method_48_code
def yX11_bestOf : MethodName := ⟨RX11, "bestOf", "(I)I"⟩
abbrev cX11_best : ByteArray := prog_13_method_49_code
def yX11_best : MethodName := ⟨RX11, "best", "(II)I"⟩
abbrev cX11_keeps : ByteArray := prog_13_method_50_code
def yX11_keeps : MethodName := ⟨RX11, "keeps", "()V"⟩
abbrev cX11_laysBack : ByteArray := prog_13_method_51_code
def yX11_laysBack : MethodName := ⟨RX11, "laysBack", "()V"⟩
abbrev cX11_tells : ByteArray := prog_13_method_52_code
def yX11_tells : MethodName := ⟨RX11, "tells", "(I)Z"⟩
abbrev cX11_gainsByOrder : ByteArray := prog_13_method_53_code
def yX11_gainsByOrder : MethodName := ⟨RX11, "gainsByOrder", "()I"⟩
abbrev cX11_orderly : ByteArray := prog_13_method_54_code
def yX11_orderly : MethodName := ⟨RX11, "orderly", "(I)I"⟩
abbrev cX11_duelOne : ByteArray := prog_13_method_55_code
def yX11_duelOne : MethodName := ⟨RX11, "duelOne", "(I)I"⟩
abbrev cX11_duel : ByteArray := prog_13_method_56_code
def yX11_duel : MethodName := ⟨RX11, "duel", "(IIII)I"⟩
abbrev cX11_fewestOf : ByteArray := prog_13_method_57_code
def yX11_fewestOf : MethodName := ⟨RX11, "fewestOf", "(II)I"⟩
abbrev cX11_fewest : ByteArray := prog_13_method_58_code
def yX11_fewest : MethodName := ⟨RX11, "fewest", "(II)I"⟩
abbrev cX11_soonest : ByteArray := prog_13_method_59_code
def yX11_soonest : MethodName := ⟨RX11, "soonest", "(II)I"⟩
abbrev cX11_hire : ByteArray := prog_13_method_60_code
def yX11_hire : MethodName := ⟨RX11, "hire", "(II)I"⟩
abbrev cX11_makes : ByteArray := prog_13_method_61_code
def yX11_makes : MethodName := ⟨RX11, "makes", "(III)Z"⟩
abbrev cX11_isMark : ByteArray := prog_13_method_62_code
def yX11_isMark : MethodName := ⟨RX11, "isMark", "(II)Z"⟩
abbrev cX11_whose : ByteArray := prog_13_method_63_code
def yX11_whose : MethodName := ⟨RX11, "whose", "(II)I"⟩
abbrev cX11_jaws : ByteArray := prog_13_method_64_code
def yX11_jaws : MethodName := ⟨RX11, "jaws", "(IIIZ)I"⟩
abbrev cX11_kinds : ByteArray := prog_13_method_65_code
def yX11_kinds : MethodName := ⟨RX11, "kinds", "(IIII)I"⟩
abbrev cX11_sheetWrong : ByteArray := prog_13_method_66_code
def yX11_sheetWrong : MethodName := ⟨RX11, "sheetWrong", "(I)I"⟩
abbrev cX11_bitesBy : ByteArray := prog_13_method_67_code
def yX11_bitesBy : MethodName := ⟨RX11, "bitesBy", "(I)I"⟩
abbrev cX11_firstWrong : ByteArray := prog_13_method_68_code
def yX11_firstWrong : MethodName := ⟨RX11, "firstWrong", "(I)I"⟩
abbrev cX11_judge : ByteArray := prog_13_method_69_code
def yX11_judge : MethodName := ⟨RX11, "judge", "(I)I"⟩
abbrev cX11_ends : ByteArray := prog_13_method_70_code
def yX11_ends : MethodName := ⟨RX11, "ends", "(III)I"⟩
abbrev cX11_laws : ByteArray := prog_13_method_71_code
def yX11_laws : MethodName := ⟨RX11, "laws", "(I)I"⟩
abbrev cX11_film : ByteArray := prog_13_method_72_code
def yX11_film : MethodName := ⟨RX11, "film", "(II)I"⟩
abbrev cX11_dayBy : ByteArray := prog_13_method_73_code
def yX11_dayBy : MethodName := ⟨RX11, "dayBy", "(III)V"⟩
abbrev cX11_drawn : ByteArray := prog_13_method_74_code
def yX11_drawn : MethodName := ⟨RX11, "drawn", "(IIII)I"⟩
abbrev cX11_lowest : ByteArray := prog_13_method_75_code
def yX11_lowest : MethodName := ⟨RX11, "lowest", "(JJI)J"⟩
abbrev cX11_odds : ByteArray := prog_13_method_76_code
def yX11_odds : MethodName := ⟨RX11, "odds", "(IIIII)J"⟩
abbrev cX11_image : ByteArray := prog_13_method_77_code
def yX11_image : MethodName := ⟨RX11, "image", "()I"⟩
abbrev cX11_back : ByteArray := prog_13_method_78_code
def yX11_back : MethodName := ⟨RX11, "back", "()I"⟩
abbrev cX11_sheet : ByteArray := prog_13_method_79_code
def yX11_sheet : MethodName := ⟨RX11, "sheet", "(III)I"⟩
abbrev cX11_cell : ByteArray := prog_13_method_80_code
def yX11_cell : MethodName := ⟨RX11, "cell", "(III)I"⟩
abbrev cX11_copy : ByteArray := prog_13_method_81_code
def yX11_copy : MethodName := ⟨RX11, "copy", "(IIIII)I"⟩
abbrev cX11_eatersBy : ByteArray := prog_13_method_82_code
def yX11_eatersBy : MethodName := ⟨RX11, "eatersBy", "(IIII)I"⟩
abbrev cX11_isUnder : ByteArray := prog_13_method_83_code
def yX11_isUnder : MethodName := ⟨RX11, "isUnder", "(II)Z"⟩
abbrev cX11_taken : ByteArray := prog_13_method_84_code
def yX11_taken : MethodName := ⟨RX11, "taken", "(II)I"⟩
def RJ6 : String := "java/lang/Integer"
def TJ6 : u_T := fun k => match k with
  | _ => ("", "", "", false)
def tyJ6 : Nat → FieldType := fun k => match k with
  | _ => .int
abbrev wsJ60 : List Cond := u_ws RJ6 TJ6 0
theorem nmJ6 : ∀ a, a < 0 → ∀ b, b < 0 → a ≠ b → (TJ6 a).2.1 ≠ (TJ6 b).2.1 := by decide +kernel
theorem tyJ6_ok : ∀ k, k < 0 → parseFieldDescriptor (TJ6 k).2.2.1 = some (tyJ6 k) := by decide +kernel
abbrev cJ6_bitCount_0f7a4 : ByteArray := prog_14_method_49_code
def yJ6_bitCount_0f7a4 : MethodName := ⟨RJ6, "bitCount", "(I)I"⟩
def RJ9 : String := "java/lang/Math"
def TJ9 : u_T := fun k => match k with
  | _ => ("", "", "", false)
def tyJ9 : Nat → FieldType := fun k => match k with
  | _ => .int
abbrev wsJ90 : List Cond := u_ws RJ9 TJ9 0
theorem nmJ9 : ∀ a, a < 0 → ∀ b, b < 0 → a ≠ b → (TJ9 a).2.1 ≠ (TJ9 b).2.1 := by decide +kernel
theorem tyJ9_ok : ∀ k, k < 0 → parseFieldDescriptor (TJ9 k).2.2.1 = some (tyJ9 k) := by decide +kernel
abbrev cJ9_max_7cf53 : ByteArray := prog_15_method_65_code
def yJ9_max_7cf53 : MethodName := ⟨RJ9, "max", "(II)I"⟩
abbrev cJ9_min_7cf53 : ByteArray := prog_15_method_69_code
def yJ9_min_7cf53 : MethodName := ⟨RJ9, "min", "(II)I"⟩
def RJ0 : String := "java/lang/String"
def TJ0 : u_T := fun k => match k with
  | _ => ("", "", "", false)
def tyJ0 : Nat → FieldType := fun k => match k with
  | _ => .int
abbrev wsJ00 : List Cond := u_ws RJ0 TJ0 0
theorem nmJ0 : ∀ a, a < 0 → ∀ b, b < 0 → a ≠ b → (TJ0 a).2.1 ≠ (TJ0 b).2.1 := by decide +kernel
theorem tyJ0_ok : ∀ k, k < 0 → parseFieldDescriptor (TJ0 k).2.2.1 = some (tyJ0 k) := by decide +kernel
abbrev cJ0_length_8abf5 : ByteArray := prog_16_method_54_code
def yJ0_length_8abf5 : MethodName := ⟨RJ0, "length", "()I"⟩
abbrev cJ0_charAt_5068e : ByteArray := prog_16_method_56_code
def yJ0_charAt_5068e : MethodName := ⟨RJ0, "charAt", "(I)C"⟩
abbrev cJ0_coder_7d493 : ByteArray := prog_16_method_152_code
def yJ0_coder_7d493 : MethodName := ⟨RJ0, "coder", "()B"⟩
abbrev cJ0_isLatin1_aae02 : ByteArray := prog_16_method_154_code
def yJ0_isLatin1_aae02 : MethodName := ⟨RJ0, "isLatin1", "()Z"⟩
abbrev cJ0_checkIndex_df160 : ByteArray := prog_16_method_155_code
def yJ0_checkIndex_df160 : MethodName := ⟨RJ0, "checkIndex", "(II)V"⟩
def RJ1 : String := "java/lang/StringLatin1"
def TJ1 : u_T := fun k => match k with
  | _ => ("", "", "", false)
def tyJ1 : Nat → FieldType := fun k => match k with
  | _ => .int
abbrev wsJ10 : List Cond := u_ws RJ1 TJ1 0
theorem nmJ1 : ∀ a, a < 0 → ∀ b, b < 0 → a ≠ b → (TJ1 a).2.1 ≠ (TJ1 b).2.1 := by decide +kernel
theorem tyJ1_ok : ∀ k, k < 0 → parseFieldDescriptor (TJ1 k).2.2.1 = some (tyJ1 k) := by decide +kernel
abbrev cJ1_charAt_3b067 : ByteArray := prog_17_method_2_code
def yJ1_charAt_3b067 : MethodName := ⟨RJ1, "charAt", "([BI)C"⟩
def RJ2 : String := "java/lang/StringUTF16"
def TJ2 : u_T := fun k => match k with
  | _ => ("", "", "", false)
def tyJ2 : Nat → FieldType := fun k => match k with
  | _ => .int
abbrev wsJ20 : List Cond := u_ws RJ2 TJ2 0
theorem nmJ2 : ∀ a, a < 0 → ∀ b, b < 0 → a ≠ b → (TJ2 a).2.1 ≠ (TJ2 b).2.1 := by decide +kernel
theorem tyJ2_ok : ∀ k, k < 0 → parseFieldDescriptor (TJ2 k).2.2.1 = some (tyJ2 k) := by decide +kernel
abbrev cJ2_getChar_3b067 : ByteArray := prog_18_method_5_code
def yJ2_getChar_3b067 : MethodName := ⟨RJ2, "getChar", "([BI)C"⟩
abbrev cJ2_length_9d52b : ByteArray := prog_18_method_6_code
def yJ2_length_9d52b : MethodName := ⟨RJ2, "length", "([B)I"⟩
abbrev cJ2_charAt_3b067 : ByteArray := prog_18_method_83_code
def yJ2_charAt_3b067 : MethodName := ⟨RJ2, "charAt", "([BI)C"⟩
abbrev cJ2_checkIndex_2214a : ByteArray := prog_18_method_91_code
def yJ2_checkIndex_2214a : MethodName := ⟨RJ2, "checkIndex", "(I[B)V"⟩
def RJ10 : String := "java/lang/System"
def TJ10 : u_T := fun k => match k with
  | _ => ("", "", "", false)
def tyJ10 : Nat → FieldType := fun k => match k with
  | _ => .int
abbrev wsJ100 : List Cond := u_ws RJ10 TJ10 0
theorem nmJ10 : ∀ a, a < 0 → ∀ b, b < 0 → a ≠ b → (TJ10 a).2.1 ≠ (TJ10 b).2.1 := by decide +kernel
theorem tyJ10_ok : ∀ k, k < 0 → parseFieldDescriptor (TJ10 k).2.2.1 = some (tyJ10 k) := by decide +kernel
def RJ3 : String := "jdk/internal/util/Preconditions"
def TJ3 : u_T := fun k => match k with
  | _ => ("", "", "", false)
def tyJ3 : Nat → FieldType := fun k => match k with
  | _ => .int
abbrev wsJ30 : List Cond := u_ws RJ3 TJ3 0
theorem nmJ3 : ∀ a, a < 0 → ∀ b, b < 0 → a ≠ b → (TJ3 a).2.1 ≠ (TJ3 b).2.1 := by decide +kernel
theorem tyJ3_ok : ∀ k, k < 0 → parseFieldDescriptor (TJ3 k).2.2.1 = some (tyJ3 k) := by decide +kernel
abbrev cJ3_checkIndex_8e157 : ByteArray := prog_20_method_11_code
def yJ3_checkIndex_8e157 : MethodName := ⟨RJ3, "checkIndex", "(IILjava/util/function/BiFunction;)I"⟩
def RL : String := "BiteFirstLaw"
abbrev cL_law : ByteArray := code
def yL_law : MethodName := ⟨RL, "law", "([I)Z"⟩
def wsL_law_r1 : List Cond := [Cond.classLink RL 7 RX10, Cond.instantiable RX10 10, Cond.initialized RX10, Cond.classLink RL 10 RX11, Cond.instantiable RX11 38, Cond.initialized RX11, Cond.methodLink RL 9 yX10_init, Cond.instanceMethod yX10_init, Cond.code yX10_init cX10_init 3 none, Cond.methodLink RX10 1 objectInit, Cond.instanceMethod objectInit, Cond.code objectInit ⟨#[0xb1]⟩ 1 none, Cond.classLink RX10 7 RX6, Cond.instantiable RX6 11, Cond.initialized RX6, Cond.fieldLink RX10 10 "BiteFirst" "tape" "LBiteFirst$Tape;", Cond.classLink RX10 16 RX7, Cond.fieldLink RX10 18 "BiteFirst" "texts" "[LBiteFirst$Text;", Cond.classLink RX10 22 RX2, Cond.instantiable RX2 2, Cond.initialized RX2, Cond.fieldLink RX10 25 "BiteFirst" "fitting" "LBiteFirst$Fitting;", Cond.classLink RX10 29 RX0, Cond.instantiable RX0 1]
def wsL_law_r2 : List Cond := [Cond.initialized RX0, Cond.fieldLink RX10 32 "BiteFirst" "cover" "LBiteFirst$Cover;", Cond.classLink RX10 36 RX5, Cond.fieldLink RX10 38 "BiteFirst" "sheets" "[LBiteFirst$Sheet;", Cond.fieldLink RX10 59 "BiteFirst" "textCount" "I", Cond.classLink RX10 63 RX4, Cond.instantiable RX4 10, Cond.initialized RX4, Cond.fieldLink RX10 68 "BiteFirst" "now" "LBiteFirst$Scene;", Cond.fieldLink RX10 72 "BiteFirst" "imaged" "LBiteFirst$Scene;", Cond.classLink RX10 75 RX8, Cond.instantiable RX8 4, Cond.initialized RX8, Cond.fieldLink RX10 78 "BiteFirst" "thought" "LBiteFirst$Thought;", Cond.instantiable RX5 3, Cond.initialized RX5, Cond.instanceMethod yX6_init, Cond.code yX6_init cX6_init 1 none, Cond.methodLink RX6 3 objectInit, Cond.arrayClass .int, Cond.fieldLink RX6 9 "BiteFirst$Tape" "bytes" "[I", Cond.fieldLink RX6 15 "BiteFirst$Tape" "steps" "[I", Cond.instanceMethod yX2_init, Cond.code yX2_init cX2_init 1 none]
def wsL_law_r3 : List Cond := [Cond.methodLink RX2 3 objectInit, Cond.classLink RX2 9 RX1, Cond.instantiable RX1 5, Cond.initialized RX1, Cond.fieldLink RX2 12 "BiteFirst$Fitting" "fitted" "LBiteFirst$Eater;", Cond.instanceMethod yX1_init, Cond.code yX1_init cX1_init 1 none, Cond.methodLink RX1 3 objectInit, Cond.instanceMethod yX0_init, Cond.code yX0_init cX0_init 1 none, Cond.methodLink RX0 3 objectInit, Cond.fieldLink RX0 9 "BiteFirst$Cover" "fewestOf" "[I", Cond.methodLink RX10 44 yX6_write, Cond.instanceMethod yX6_write, Cond.selects RX6 yX6_write yX6_write, Cond.code yX6_write cX6_write 3 none, Cond.methodLink RX6 22 yJ0_length_8abf5, Cond.instanceMethod yJ0_length_8abf5, Cond.selects RJ0 yJ0_length_8abf5 yJ0_length_8abf5, Cond.initialized RJ0, Cond.code yJ0_length_8abf5 cJ0_length_8abf5 1 (some .int), Cond.fieldLink RJ0 9 "java/lang/String" "value" "[B", Cond.methodLink RJ0 335 yJ0_coder_7d493, Cond.instanceMethod yJ0_coder_7d493]
def wsL_law_r4 : List Cond := [Cond.selects RJ0 yJ0_coder_7d493 yJ0_coder_7d493, Cond.code yJ0_coder_7d493 cJ0_coder_7d493 1 (some .byte), Cond.fieldLink RJ0 38 "java/lang/String" "COMPACT_STRINGS" "Z", Cond.fieldLink RJ0 15 "java/lang/String" "coder" "B", Cond.methodLink RX6 28 yJ0_charAt_5068e, Cond.instanceMethod yJ0_charAt_5068e, Cond.selects RJ0 yJ0_charAt_5068e yJ0_charAt_5068e, Cond.code yJ0_charAt_5068e cJ0_charAt_5068e 2 (some .char), Cond.methodLink RJ0 492 yJ0_isLatin1_aae02, Cond.instanceMethod yJ0_isLatin1_aae02, Cond.selects RJ0 yJ0_isLatin1_aae02 yJ0_isLatin1_aae02, Cond.code yJ0_isLatin1_aae02 cJ0_isLatin1_aae02 1 (some .boolean), Cond.methodLink RJ0 495 yJ1_charAt_3b067, Cond.static yJ1_charAt_3b067, Cond.initialized RJ1, Cond.code yJ1_charAt_3b067 cJ1_charAt_3b067 2 (some .char), Cond.methodLink RJ1 9 yJ0_checkIndex_df160, Cond.static yJ0_checkIndex_df160, Cond.code yJ0_checkIndex_df160 cJ0_checkIndex_df160 2 none, Cond.fieldLink RJ0 1053 "jdk/internal/util/Preconditions" "SIOOBE_FORMATTER" "Ljava/util/function/BiFunction;", Cond.methodLink RJ0 1059 yJ3_checkIndex_8e157, Cond.static yJ3_checkIndex_8e157, Cond.initialized RJ3, Cond.code yJ3_checkIndex_8e157 cJ3_checkIndex_8e157 3 (some .int)]
def wsL_law_r5 : List Cond := [Cond.methodLink RJ0 498 yJ2_charAt_3b067, Cond.static yJ2_charAt_3b067, Cond.initialized RJ2, Cond.code yJ2_charAt_3b067 cJ2_charAt_3b067 2 (some .char), Cond.methodLink RJ2 67 yJ2_checkIndex_2214a, Cond.static yJ2_checkIndex_2214a, Cond.code yJ2_checkIndex_2214a cJ2_checkIndex_2214a 2 none, Cond.methodLink RJ2 48 yJ2_length_9d52b, Cond.static yJ2_length_9d52b, Cond.code yJ2_length_9d52b cJ2_length_9d52b 1 (some .int), Cond.methodLink RJ2 414 yJ0_checkIndex_df160, Cond.methodLink RJ2 71 yJ2_getChar_3b067, Cond.static yJ2_getChar_3b067, Cond.code yJ2_getChar_3b067 cJ2_getChar_3b067 2 (some .char), Cond.fieldLink RJ2 44 "java/lang/StringUTF16" "$assertionsDisabled" "Z", Cond.fieldLink RJ2 59 "java/lang/StringUTF16" "HI_BYTE_SHIFT" "I", Cond.fieldLink RJ2 63 "java/lang/StringUTF16" "LO_BYTE_SHIFT" "I", Cond.methodLink RX6 32 yX6_add, Cond.instanceMethod yX6_add, Cond.selects RX6 yX6_add yX6_add, Cond.code yX6_add cX6_add 2 none, Cond.fieldLink RX6 18 "BiteFirst$Tape" "size" "I", Cond.methodLink RX10 48 yX6_findFault, Cond.instanceMethod yX6_findFault]
def wsL_law_r6 : List Cond := [Cond.selects RX6 yX6_findFault yX6_findFault, Cond.code yX6_findFault cX6_findFault 1 (some .int), Cond.fieldLink RX6 36 "BiteFirst$Tape" "next" "I", Cond.fieldLink RX6 39 "BiteFirst$Tape" "fault" "I", Cond.fieldLink RX6 42 "BiteFirst$Tape" "stepCount" "I", Cond.fieldLink RX6 57 "BiteFirst$Tape" "likesFrom" "I", Cond.fieldLink RX6 60 "BiteFirst$Tape" "waitsFrom" "I", Cond.fieldLink RX6 63 "BiteFirst$Tape" "token" "I", Cond.methodLink RX6 45 yX6_advance, Cond.instanceMethod yX6_advance, Cond.selects RX6 yX6_advance yX6_advance, Cond.code yX6_advance cX6_advance 1 none, Cond.fieldLink RX6 101 "BiteFirst$Tape" "tokenAt" "I", Cond.methodLink RX6 104 yX6_isLetter, Cond.static yX6_isLetter, Cond.code yX6_isLetter cX6_isLetter 1 (some .boolean), Cond.methodLink RX6 107 yX6_wordToken, Cond.instanceMethod yX6_wordToken, Cond.selects RX6 yX6_wordToken yX6_wordToken, Cond.code yX6_wordToken cX6_wordToken 1 (some .int), Cond.methodLink RX6 121 yX6_isWord, Cond.instanceMethod yX6_isWord, Cond.selects RX6 yX6_isWord yX6_isWord, Cond.code yX6_isWord cX6_isWord 3 (some .boolean)]
def wsL_law_r7 : List Cond := [Cond.methodLink RX6 110 yX6_isDigit, Cond.static yX6_isDigit, Cond.code yX6_isDigit cX6_isDigit 1 (some .boolean), Cond.methodLink RX6 113 yX6_readNumber, Cond.instanceMethod yX6_readNumber, Cond.selects RX6 yX6_readNumber yX6_readNumber, Cond.code yX6_readNumber cX6_readNumber 1 none, Cond.fieldLink RX6 94 "BiteFirst$Tape" "number" "I", Cond.methodLink RX6 116 yX9_isSign, Cond.static yX9_isSign, Cond.initialized RX9, Cond.code yX9_isSign cX9_isSign 1 (some .boolean), Cond.methodLink RX9 9 yX9_rankOf, Cond.static yX9_rankOf, Cond.code yX9_rankOf cX9_rankOf 1 (some .int), Cond.methodLink RX6 50 yX6_expect, Cond.instanceMethod yX6_expect, Cond.selects RX6 yX6_expect yX6_expect, Cond.code yX6_expect cX6_expect 2 none, Cond.methodLink RX6 66 yX6_fail, Cond.instanceMethod yX6_fail, Cond.selects RX6 yX6_fail yX6_fail, Cond.code yX6_fail cX6_fail 1 none, Cond.methodLink RX6 53 yX6_readRank]
def wsL_law_r8 : List Cond := [Cond.instanceMethod yX6_readRank, Cond.selects RX6 yX6_readRank yX6_readRank, Cond.code yX6_readRank cX6_readRank 6 none, Cond.methodLink RX6 80 yX6_readOne, Cond.instanceMethod yX6_readOne, Cond.selects RX6 yX6_readOne yX6_readOne, Cond.methodLink RX6 83 yX6_mayOpen, Cond.instanceMethod yX6_mayOpen, Cond.selects RX6 yX6_mayOpen yX6_mayOpen, Cond.code yX6_mayOpen cX6_mayOpen 2 (some .boolean), Cond.methodLink RX6 87 yX6_emit, Cond.instanceMethod yX6_emit, Cond.selects RX6 yX6_emit yX6_emit, Cond.code yX6_emit cX6_emit 2 none, Cond.methodLink RX6 90 yX9_rankOf, Cond.code yX6_readOne cX6_readOne 2 none, Cond.static yX10_within, Cond.code yX10_within cX10_within 3 (some .boolean), Cond.methodLink RX10 52 yX6_made, Cond.instanceMethod yX6_made, Cond.selects RX6 yX6_made yX6_made, Cond.code yX6_made cX6_made 3 (some (.object "BiteFirst$Text")), Cond.methodLink RX6 69 arraycopyName, Cond.native arraycopyName]
def wsL_law_r9 : List Cond := [Cond.static arraycopyName, Cond.initialized "java/lang/System", Cond.classLink RX6 75 RX7, Cond.instantiable RX7 5, Cond.initialized RX7, Cond.methodLink RX6 77 yX7_init, Cond.instanceMethod yX7_init, Cond.code yX7_init cX7_init 5 none, Cond.methodLink RX7 1 objectInit, Cond.fieldLink RX7 9 "BiteFirst$Text" "stack" "[I", Cond.fieldLink RX7 13 "BiteFirst$Text" "number" "I", Cond.fieldLink RX7 17 "BiteFirst$Text" "steps" "[I", Cond.fieldLink RX7 20 "BiteFirst$Text" "likesFrom" "I", Cond.fieldLink RX7 23 "BiteFirst$Text" "waitsFrom" "I", Cond.methodLink RX10 56 yX6_clear, Cond.instanceMethod yX6_clear, Cond.selects RX6 yX6_clear yX6_clear, Cond.code yX6_clear cX6_clear 1 none, Cond.methodLink RX10 65 yX4_init, Cond.instanceMethod yX4_init, Cond.code yX4_init cX4_init 3 none, Cond.methodLink RX4 3 objectInit, Cond.classLink RX4 9 RX1, Cond.fieldLink RX4 11 "BiteFirst$Scene" "eaters" "[LBiteFirst$Eater;"]
def wsL_law_r10 : List Cond := [Cond.classLink RX4 17 RX3, Cond.fieldLink RX4 19 "BiteFirst$Scene" "goods" "[LBiteFirst$Good;", Cond.fieldLink RX4 23 "BiteFirst$Scene" "names" "[I", Cond.fieldLink RX4 27 "BiteFirst$Scene" "law" "LBiteFirst$Text;", Cond.instantiable RX3 3, Cond.initialized RX3, Cond.instanceMethod yX3_init, Cond.code yX3_init cX3_init 1 none, Cond.methodLink RX3 3 objectInit, Cond.fieldLink RX3 9 "BiteFirst$Good" "worths" "[I", Cond.methodLink RX10 77 yX8_init, Cond.instanceMethod yX8_init, Cond.code yX8_init cX8_init 2 none, Cond.methodLink RX8 3 objectInit, Cond.classLink RX8 9 RX4, Cond.fieldLink RX8 14 "BiteFirst$Thought" "scene" "LBiteFirst$Scene;", Cond.methodLink RX8 11 yX4_init, Cond.instanceMethod yX5_init, Cond.code yX5_init cX5_init 1 none, Cond.methodLink RX5 3 objectInit, Cond.fieldLink RX5 11 "BiteFirst$Sheet" "sort" "I", Cond.fieldLink RX5 15 "BiteFirst$Sheet" "numbers" "[I", Cond.methodLink RL 12 yX11_init, Cond.instanceMethod yX11_init]
def wsL_law_r11 : List Cond := [Cond.code yX11_init cX11_init 2 none, Cond.methodLink RX11 1 objectInit, Cond.fieldLink RX11 7 "BiteFirstModel" "parts" "[I", Cond.fieldLink RX11 13 "BiteFirstModel" "kind" "[I", Cond.fieldLink RX11 16 "BiteFirstModel" "moreOf" "[I", Cond.fieldLink RX11 19 "BiteFirstModel" "rows" "[I", Cond.fieldLink RX11 22 "BiteFirstModel" "tape" "[I", Cond.fieldLink RX11 25 "BiteFirstModel" "codes" "[I", Cond.fieldLink RX11 28 "BiteFirstModel" "starts" "[I", Cond.fieldLink RX11 31 "BiteFirstModel" "imageParts" "[I", Cond.fieldLink RX11 34 "BiteFirstModel" "imageRows" "[I", Cond.fieldLink RX11 37 "BiteFirstModel" "imageHeld" "[I", Cond.fieldLink RX11 40 "BiteFirstModel" "sheetSort" "[I", Cond.fieldLink RX11 43 "BiteFirstModel" "sheetSize" "[I", Cond.fieldLink RX11 46 "BiteFirstModel" "cells" "[I", Cond.fieldLink RX11 49 "BiteFirstModel" "law" "[I", Cond.fieldLink RX11 52 "BiteFirstModel" "words" "[I", Cond.fieldLink RX11 55 "BiteFirstModel" "held" "[I", Cond.fieldLink RX11 58 "BiteFirstModel" "stack" "[I", Cond.fieldLink RX11 61 "BiteFirstModel" "named" "[I", Cond.fieldLink RX11 64 "BiteFirstModel" "kept" "[I", Cond.fieldLink RX11 67 "BiteFirstModel" "order" "[I", Cond.fieldLink RX11 70 "BiteFirstModel" "few" "[I", Cond.fieldLink RX11 73 "BiteFirstModel" "taped" "I"]
def wsL_law_r12 : List Cond := [Cond.methodLink RX11 77 yX11_text, Cond.instanceMethod yX11_text, Cond.selects RX11 yX11_text yX11_text, Cond.code yX11_text cX11_text 3 (some .int), Cond.fieldLink RX11 94 "BiteFirstModel" "texts" "I", Cond.fieldLink RX11 104 "BiteFirstModel" "at" "I", Cond.fieldLink RX11 120 "BiteFirstModel" "out" "I", Cond.fieldLink RX11 110 "BiteFirstModel" "token" "I", Cond.fieldLink RX11 113 "BiteFirstModel" "value" "I", Cond.fieldLink RX11 107 "BiteFirstModel" "begun" "I", Cond.methodLink RX11 143 yX11_next, Cond.instanceMethod yX11_next, Cond.selects RX11 yX11_next yX11_next, Cond.code yX11_next cX11_next 3 none, Cond.methodLink RX11 84 yX11_in, Cond.static yX11_in, Cond.code yX11_in cX11_in 3 (some .boolean), Cond.methodLink RX11 116 yX11_wordFrom, Cond.instanceMethod yX11_wordFrom, Cond.selects RX11 yX11_wordFrom yX11_wordFrom, Cond.code yX11_wordFrom cX11_wordFrom 6 (some .int), Cond.methodLink RX11 156 yX11_eRead, Cond.instanceMethod yX11_eRead, Cond.selects RX11 yX11_eRead yX11_eRead]
def wsL_law_r13 : List Cond := [Cond.code yX11_eRead cX11_eRead 4 (some .boolean), Cond.fieldLink RX11 123 "BiteFirstModel" "heldMany" "I", Cond.fieldLink RX11 130 "BiteFirstModel" "opens" "I", Cond.constant RX11 146 (100000), Cond.methodLink RX11 133 yX11_puts, Cond.instanceMethod yX11_puts, Cond.selects RX11 yX11_puts yX11_puts, Cond.code yX11_puts cX11_puts 2 none, Cond.methodLink RX11 140 yX11_unwinds, Cond.instanceMethod yX11_unwinds, Cond.selects RX11 yX11_unwinds yX11_unwinds, Cond.code yX11_unwinds cX11_unwinds 3 none, Cond.methodLink RX11 126 yX11_rank, Cond.static yX11_rank, Cond.code yX11_rank cX11_rank 1 (some .int), Cond.methodLink RX11 147 yX11_opensOne, Cond.instanceMethod yX11_opensOne, Cond.selects RX11 yX11_opensOne yX11_opensOne, Cond.code yX11_opensOne cX11_opensOne 2 (some .boolean), Cond.methodLink RX11 137 yX11_holds, Cond.instanceMethod yX11_holds, Cond.selects RX11 yX11_holds yX11_holds, Cond.code yX11_holds cX11_holds 2 none, Cond.methodLink RX11 150 yX11_signOf]
def wsL_law_r14 : List Cond := [Cond.instanceMethod yX11_signOf, Cond.selects RX11 yX11_signOf yX11_signOf, Cond.code yX11_signOf cX11_signOf 1 (some .int), Cond.methodLink RX11 153 yX11_between, Cond.instanceMethod yX11_between, Cond.selects RX11 yX11_between yX11_between, Cond.code yX11_between cX11_between 2 (some .boolean), Cond.methodLink RL 13 yX10_count, Cond.instanceMethod yX10_count, Cond.selects RX10 yX10_count yX10_count, Cond.code yX10_count cX10_count 2 (some .int), Cond.fieldLink RX10 83 "BiteFirst$Scene" "eaterCount" "I", Cond.fieldLink RX10 86 "BiteFirst$Scene" "goodCount" "I", Cond.fieldLink RX10 89 "BiteFirst$Scene" "day" "I", Cond.fieldLink RX10 92 "BiteFirst$Scene" "law" "LBiteFirst$Text;", Cond.fieldLink RX10 96 "BiteFirst$Text" "number" "I", Cond.methodLink RX10 99 yX6_size, Cond.instanceMethod yX6_size, Cond.selects RX6 yX6_size yX6_size, Cond.code yX6_size cX6_size 1 (some .int), Cond.methodLink RL 17 yX11_count, Cond.instanceMethod yX11_count, Cond.selects RX11 yX11_count yX11_count, Cond.code yX11_count cX11_count 2 (some .int)]
def wsL_law_r15 : List Cond := [Cond.fieldLink RX11 81 "BiteFirstModel" "eaters" "I", Cond.fieldLink RX11 88 "BiteFirstModel" "goods" "I", Cond.fieldLink RX11 91 "BiteFirstModel" "day0" "I", Cond.fieldLink RX11 97 "BiteFirstModel" "rule" "I", Cond.methodLink RL 18 yX10_set, Cond.instanceMethod yX10_set, Cond.selects RX10 yX10_set yX10_set, Cond.code yX10_set cX10_set 3 (some .int), Cond.methodLink RX10 102 yX10_within, Cond.methodLink RL 21 yX11_set, Cond.instanceMethod yX11_set, Cond.selects RX11 yX11_set yX11_set, Cond.code yX11_set cX11_set 3 (some .int), Cond.methodLink RL 22 yX10_feed, Cond.instanceMethod yX10_feed, Cond.selects RX10 yX10_feed yX10_feed, Cond.code yX10_feed cX10_feed 7 (some .int), Cond.methodLink RX10 106 yX10_isByte, Cond.static yX10_isByte, Cond.code yX10_isByte cX10_isByte 1 (some .boolean), Cond.methodLink RX10 110 yX6_room, Cond.instanceMethod yX6_room, Cond.selects RX6 yX6_room yX6_room, Cond.code yX6_room cX6_room 1 (some .int)]
def wsL_law_r16 : List Cond := [Cond.methodLink RX10 113 yX6_add, Cond.methodLink RL 26 yX11_feed, Cond.instanceMethod yX11_feed, Cond.selects RX11 yX11_feed yX11_feed, Cond.code yX11_feed cX11_feed 8 (some .int), Cond.methodLink RX11 100 yX11_isByte, Cond.static yX11_isByte, Cond.code yX11_isByte cX11_isByte 1 (some .boolean), Cond.methodLink RL 27 yX10_text, Cond.instanceMethod yX10_text, Cond.selects RX10 yX10_text yX10_text, Cond.code yX10_text cX10_text 2 (some .int), Cond.methodLink RL 31 yX11_text, Cond.methodLink RL 32 yX10_force, Cond.instanceMethod yX10_force, Cond.selects RX10 yX10_force yX10_force, Cond.code yX10_force cX10_force 4 (some .int), Cond.methodLink RX10 117 yX10_textAt, Cond.instanceMethod yX10_textAt, Cond.selects RX10 yX10_textAt yX10_textAt, Cond.code yX10_textAt cX10_textAt 2 (some (.object "BiteFirst$Text")), Cond.methodLink RL 35 yX11_force, Cond.instanceMethod yX11_force, Cond.selects RX11 yX11_force yX11_force]
def wsL_law_r17 : List Cond := [Cond.code yX11_force cX11_force 3 (some .int), Cond.methodLink RL 36 yX10_asks, Cond.instanceMethod yX10_asks, Cond.selects RX10 yX10_asks yX10_asks, Cond.code yX10_asks cX10_asks 7 (some .int), Cond.methodLink RX10 120 yX4_eaterAt, Cond.instanceMethod yX4_eaterAt, Cond.selects RX4 yX4_eaterAt yX4_eaterAt, Cond.code yX4_eaterAt cX4_eaterAt 2 (some (.object "BiteFirst$Eater")), Cond.fieldLink RX4 33 "BiteFirst$Scene" "eaterCount" "I", Cond.methodLink RX10 124 yX4_goodAt, Cond.instanceMethod yX4_goodAt, Cond.selects RX4 yX4_goodAt yX4_goodAt, Cond.code yX4_goodAt cX4_goodAt 2 (some (.object "BiteFirst$Good")), Cond.fieldLink RX4 41 "BiteFirst$Scene" "goodCount" "I", Cond.methodLink RX10 128 yX4_said, Cond.instanceMethod yX4_said, Cond.selects RX4 yX4_said yX4_said, Cond.code yX4_said cX4_said 6 (some .int), Cond.fieldLink RX4 61 "BiteFirst$Good" "soft" "I", Cond.fieldLink RX4 64 "BiteFirst$Eater" "more" "I", Cond.fieldLink RX4 67 "BiteFirst$Good" "left" "I", Cond.fieldLink RX4 47 "BiteFirst$Scene" "day" "I", Cond.methodLink RX4 70 yJ6_bitCount_0f7a4]
def wsL_law_r18 : List Cond := [Cond.static yJ6_bitCount_0f7a4, Cond.initialized RJ6, Cond.code yJ6_bitCount_0f7a4 cJ6_bitCount_0f7a4 1 (some .int), Cond.constant RJ6 265 (1431655765), Cond.constant RJ6 266 (858993459), Cond.constant RJ6 267 (252645135), Cond.methodLink RX4 76 yX7_says, Cond.instanceMethod yX7_says, Cond.selects RX7 yX7_says yX7_says, Cond.code yX7_says cX7_says 9 (some .int), Cond.methodLink RX7 38 Lib.Math.min.name, Cond.static Lib.Math.min.name, Cond.initialized "java/lang/Math", Cond.code Lib.Math.min.name Lib.Math.min.code 2 (some .int), Cond.methodLink RX7 44 Lib.Math.max.name, Cond.static Lib.Math.max.name, Cond.code Lib.Math.max.name Lib.Math.max.code 2 (some .int), Cond.methodLink RX7 34 yX7_join, Cond.static yX7_join, Cond.code yX7_join cX7_join 3 (some .int), Cond.methodLink RL 40 yX11_asks, Cond.instanceMethod yX11_asks, Cond.selects RX11 yX11_asks yX11_asks, Cond.code yX11_asks cX11_asks 6 (some .int)]
def wsL_law_r19 : List Cond := [Cond.methodLink RX11 179 yX11_isEater, Cond.instanceMethod yX11_isEater, Cond.selects RX11 yX11_isEater yX11_isEater, Cond.code yX11_isEater cX11_isEater 2 (some .boolean), Cond.methodLink RX11 182 yX11_isGood, Cond.instanceMethod yX11_isGood, Cond.selects RX11 yX11_isGood yX11_isGood, Cond.code yX11_isGood cX11_isGood 2 (some .boolean), Cond.methodLink RX11 185 yX11_asksOf, Cond.instanceMethod yX11_asksOf, Cond.selects RX11 yX11_asksOf yX11_asksOf, Cond.code yX11_asksOf cX11_asksOf 6 (some .int), Cond.methodLink RX11 164 yX11_softOf, Cond.instanceMethod yX11_softOf, Cond.selects RX11 yX11_softOf yX11_softOf, Cond.code yX11_softOf cX11_softOf 2 (some .int), Cond.methodLink RX11 167 yX11_leftOf, Cond.instanceMethod yX11_leftOf, Cond.selects RX11 yX11_leftOf yX11_leftOf, Cond.code yX11_leftOf cX11_leftOf 2 (some .int), Cond.methodLink RX11 170 yX11_ones, Cond.static yX11_ones, Cond.code yX11_ones cX11_ones 3 (some .int), Cond.methodLink RX11 173 yX11_says]
def wsL_law_r20 : List Cond := [Cond.instanceMethod yX11_says, Cond.selects RX11 yX11_says yX11_says, Cond.code yX11_says cX11_says 5 (some .int), Cond.methodLink RX11 160 yX11_two, Cond.static yX11_two, Cond.code yX11_two cX11_two 3 (some .int), Cond.methodLink RX11 176 yX11_within, Cond.static yX11_within, Cond.code yX11_within cX11_within 3 (some .int), Cond.methodLink RL 41 yX10_good, Cond.instanceMethod yX10_good, Cond.selects RX10 yX10_good yX10_good, Cond.code yX10_good cX10_good 3 (some .int), Cond.methodLink RX10 132 yX4_addGood, Cond.instanceMethod yX4_addGood, Cond.selects RX4 yX4_addGood yX4_addGood, Cond.code yX4_addGood cX4_addGood 3 (some .int), Cond.methodLink RX4 58 yX3_come, Cond.instanceMethod yX3_come, Cond.selects RX3 yX3_come yX3_come, Cond.code yX3_come cX3_come 4 none, Cond.fieldLink RX3 15 "BiteFirst$Good" "soft" "I", Cond.fieldLink RX3 19 "BiteFirst$Good" "left" "I", Cond.methodLink RL 45 yX11_good]
def wsL_law_r21 : List Cond := [Cond.instanceMethod yX11_good, Cond.selects RX11 yX11_good yX11_good, Cond.code yX11_good cX11_good 4 (some .int), Cond.methodLink RL 46 yX10_put, Cond.instanceMethod yX10_put, Cond.selects RX10 yX10_put yX10_put, Cond.code yX10_put cX10_put 6 (some .int), Cond.methodLink RX10 138 yX3_mostOf, Cond.static yX3_mostOf, Cond.code yX3_mostOf cX3_mostOf 1 (some .int), Cond.methodLink RX10 142 yX3_readPart, Cond.instanceMethod yX3_readPart, Cond.selects RX3 yX3_readPart yX3_readPart, Cond.code yX3_readPart cX3_readPart 2 (some .int), Cond.methodLink RX10 145 yX3_writePart, Cond.instanceMethod yX3_writePart, Cond.selects RX3 yX3_writePart yX3_writePart, Cond.code yX3_writePart cX3_writePart 3 none, Cond.methodLink RL 50 yX11_put, Cond.instanceMethod yX11_put, Cond.selects RX11 yX11_put yX11_put, Cond.code yX11_put cX11_put 5 (some .int), Cond.methodLink RL 51 yX10_part, Cond.instanceMethod yX10_part]
def wsL_law_r22 : List Cond := [Cond.selects RX10 yX10_part yX10_part, Cond.code yX10_part cX10_part 4 (some .int), Cond.methodLink RL 54 yX11_part, Cond.instanceMethod yX11_part, Cond.selects RX11 yX11_part yX11_part, Cond.code yX11_part cX11_part 3 (some .int), Cond.methodLink RL 55 yX10_eater, Cond.instanceMethod yX10_eater, Cond.selects RX10 yX10_eater yX10_eater, Cond.code yX10_eater cX10_eater 3 (some .int), Cond.methodLink RX10 149 yX10_comeEater, Cond.instanceMethod yX10_comeEater, Cond.selects RX10 yX10_comeEater yX10_comeEater, Cond.code yX10_comeEater cX10_comeEater 3 (some .int), Cond.methodLink RX10 317 yX4_addEater, Cond.instanceMethod yX4_addEater, Cond.selects RX4 yX4_addEater yX4_addEater, Cond.code yX4_addEater cX4_addEater 4 (some .int), Cond.methodLink RX4 54 yX1_come, Cond.instanceMethod yX1_come, Cond.selects RX1 yX1_come yX1_come, Cond.code yX1_come cX1_come 4 none, Cond.fieldLink RX1 9 "BiteFirst$Eater" "kind" "I", Cond.fieldLink RX1 15 "BiteFirst$Eater" "more" "I"]
def wsL_law_r23 : List Cond := [Cond.fieldLink RX1 18 "BiteFirst$Eater" "jaw" "I", Cond.fieldLink RX1 21 "BiteFirst$Eater" "purse" "I", Cond.fieldLink RX1 24 "BiteFirst$Eater" "had" "I", Cond.methodLink RL 58 yX11_eater, Cond.instanceMethod yX11_eater, Cond.selects RX11 yX11_eater yX11_eater, Cond.code yX11_eater cX11_eater 3 (some .int), Cond.methodLink RL 59 yX10_told, Cond.instanceMethod yX10_told, Cond.selects RX10 yX10_told yX10_told, Cond.code yX10_told cX10_told 4 (some .int), Cond.fieldLink RX10 152 "BiteFirst$Eater" "kind" "I", Cond.fieldLink RX10 157 "BiteFirst$Eater" "more" "I", Cond.fieldLink RX10 160 "BiteFirst$Eater" "jaw" "I", Cond.fieldLink RX10 163 "BiteFirst$Eater" "purse" "I", Cond.fieldLink RX10 166 "BiteFirst$Eater" "had" "I", Cond.methodLink RL 62 yX11_told, Cond.instanceMethod yX11_told, Cond.selects RX11 yX11_told yX11_told, Cond.code yX11_told cX11_told 3 (some .int), Cond.methodLink RL 63 yX10_lend, Cond.instanceMethod yX10_lend, Cond.selects RX10 yX10_lend yX10_lend, Cond.code yX10_lend cX10_lend 6 (some .int)]
def wsL_law_r24 : List Cond := [Cond.methodLink RL 66 yX11_lend, Cond.instanceMethod yX11_lend, Cond.selects RX11 yX11_lend yX11_lend, Cond.code yX11_lend cX11_lend 5 (some .int), Cond.methodLink RL 67 yX10_shape, Cond.instanceMethod yX10_shape, Cond.selects RX10 yX10_shape yX10_shape, Cond.code yX10_shape cX10_shape 5 (some .int), Cond.methodLink RX10 169 yX1_shapeIn, Cond.instanceMethod yX1_shapeIn, Cond.selects RX1 yX1_shapeIn yX1_shapeIn, Cond.code yX1_shapeIn cX1_shapeIn 3 (some .int), Cond.fieldLink RX1 40 "BiteFirst$Good" "soft" "I", Cond.methodLink RL 70 yX11_shape, Cond.instanceMethod yX11_shape, Cond.selects RX11 yX11_shape yX11_shape, Cond.code yX11_shape cX11_shape 3 (some .int), Cond.methodLink RX11 189 yX11_shapeOf, Cond.instanceMethod yX11_shapeOf, Cond.selects RX11 yX11_shapeOf yX11_shapeOf, Cond.code yX11_shapeOf cX11_shapeOf 4 (some .int), Cond.methodLink RL 71 yX10_mark, Cond.instanceMethod yX10_mark, Cond.selects RX10 yX10_mark yX10_mark]
def wsL_law_r25 : List Cond := [Cond.code yX10_mark cX10_mark 8 (some .int), Cond.methodLink RX10 173 yX10_isPlace, Cond.static yX10_isPlace, Cond.code yX10_isPlace cX10_isPlace 1 (some .boolean), Cond.methodLink RX10 176 yX1_markOf, Cond.instanceMethod yX1_markOf, Cond.selects RX1 yX1_markOf yX1_markOf, Cond.code yX1_markOf cX1_markOf 5 (some .int), Cond.fieldLink RX1 31 "BiteFirst$Good" "left" "I", Cond.methodLink RX1 27 yX1_shapeIn, Cond.methodLink RX10 180 yX4_costOf, Cond.instanceMethod yX4_costOf, Cond.selects RX4 yX4_costOf yX4_costOf, Cond.code yX4_costOf cX4_costOf 5 (some .int), Cond.methodLink RX4 82 yX3_worthOfCells, Cond.instanceMethod yX3_worthOfCells, Cond.selects RX3 yX3_worthOfCells yX3_worthOfCells, Cond.code yX3_worthOfCells cX3_worthOfCells 4 (some .int), Cond.methodLink RX4 85 yX4_said, Cond.methodLink RX4 89 yX1_paysFor, Cond.instanceMethod yX1_paysFor, Cond.selects RX1 yX1_paysFor yX1_paysFor, Cond.code yX1_paysFor cX1_paysFor 4 (some .int), Cond.methodLink RX10 184 yX4_worthOf]
def wsL_law_r26 : List Cond := [Cond.instanceMethod yX4_worthOf, Cond.selects RX4 yX4_worthOf yX4_worthOf, Cond.code yX4_worthOf cX4_worthOf 7 (some .int), Cond.fieldLink RX4 93 "BiteFirst$Good" "worths" "[I", Cond.methodLink RX4 96 yX1_likesCell, Cond.instanceMethod yX1_likesCell, Cond.selects RX1 yX1_likesCell yX1_likesCell, Cond.code yX1_likesCell cX1_likesCell 2 (some .int), Cond.methodLink RL 74 yX11_mark, Cond.instanceMethod yX11_mark, Cond.selects RX11 yX11_mark yX11_mark, Cond.code yX11_mark cX11_mark 6 (some .int), Cond.methodLink RX11 204 yX11_isPlace, Cond.static yX11_isPlace, Cond.code yX11_isPlace cX11_isPlace 1 (some .boolean), Cond.methodLink RX11 198 yX11_markOf, Cond.instanceMethod yX11_markOf, Cond.selects RX11 yX11_markOf yX11_markOf, Cond.code yX11_markOf cX11_markOf 4 (some .int), Cond.methodLink RX11 192 yX11_markBy, Cond.static yX11_markBy, Cond.code yX11_markBy cX11_markBy 7 (some .int), Cond.methodLink RX11 201 yX11_costsOf, Cond.instanceMethod yX11_costsOf]
def wsL_law_r27 : List Cond := [Cond.selects RX11 yX11_costsOf yX11_costsOf, Cond.code yX11_costsOf cX11_costsOf 5 (some .int), Cond.methodLink RX11 195 yX11_worthAll, Cond.instanceMethod yX11_worthAll, Cond.selects RX11 yX11_worthAll yX11_worthAll, Cond.code yX11_worthAll cX11_worthAll 5 (some .int), Cond.methodLink RX11 207 yX11_likesOf, Cond.instanceMethod yX11_likesOf, Cond.selects RX11 yX11_likesOf yX11_likesOf, Cond.code yX11_likesOf cX11_likesOf 7 (some .int), Cond.methodLink RL 75 yX10_bite, Cond.instanceMethod yX10_bite, Cond.selects RX10 yX10_bite yX10_bite, Cond.code yX10_bite cX10_bite 8 (some .int), Cond.methodLink RX10 187 yX4_tryBite, Cond.instanceMethod yX4_tryBite, Cond.selects RX4 yX4_tryBite yX4_tryBite, Cond.code yX4_tryBite cX4_tryBite 7 (some .boolean), Cond.fieldLink RX4 106 "BiteFirst$Eater" "purse" "I", Cond.fieldLink RX4 112 "BiteFirst$Scene" "gain" "I", Cond.methodLink RX4 99 yX1_markOf, Cond.methodLink RX4 102 yX4_costOf, Cond.methodLink RX4 109 yX4_worthOf, Cond.methodLink RX4 115 yX1_swallow]
def wsL_law_r28 : List Cond := [Cond.instanceMethod yX1_swallow, Cond.selects RX1 yX1_swallow yX1_swallow, Cond.code yX1_swallow cX1_swallow 5 none, Cond.methodLink RX1 43 Lib.Math.min.name, Cond.methodLink RL 78 yX11_bite, Cond.instanceMethod yX11_bite, Cond.selects RX11 yX11_bite yX11_bite, Cond.code yX11_bite cX11_bite 6 (some .int), Cond.methodLink RX11 210 yX11_bites, Cond.instanceMethod yX11_bites, Cond.selects RX11 yX11_bites yX11_bites, Cond.code yX11_bites cX11_bites 7 (some .int), Cond.methodLink RL 79 yX10_best, Cond.instanceMethod yX10_best, Cond.selects RX10 yX10_best yX10_best, Cond.code yX10_best cX10_best 4 (some .int), Cond.fieldLink RX10 195 "BiteFirst$Scene" "bestBite" "I", Cond.fieldLink RX10 198 "BiteFirst$Scene" "bestGain" "I", Cond.methodLink RX10 191 yX4_findBest, Cond.instanceMethod yX4_findBest, Cond.selects RX4 yX4_findBest yX4_findBest, Cond.code yX4_findBest cX4_findBest 7 none, Cond.fieldLink RX4 119 "BiteFirst$Scene" "bestBite" "I", Cond.fieldLink RX4 122 "BiteFirst$Scene" "bestGain" "I"]
def wsL_law_r29 : List Cond := [Cond.methodLink RX4 125 yX4_leastGain, Cond.instanceMethod yX4_leastGain, Cond.selects RX4 yX4_leastGain yX4_leastGain, Cond.code yX4_leastGain cX4_leastGain 4 (some .int), Cond.methodLink RX4 128 yX4_tellBite, Cond.static yX4_tellBite, Cond.code yX4_tellBite cX4_tellBite 1 (some .int), Cond.methodLink RL 82 yX11_best, Cond.instanceMethod yX11_best, Cond.selects RX11 yX11_best yX11_best, Cond.code yX11_best cX11_best 4 (some .int), Cond.fieldLink RX11 213 "BiteFirstModel" "bestGain" "I", Cond.methodLink RX11 219 yX11_bestOf, Cond.instanceMethod yX11_bestOf, Cond.selects RX11 yX11_bestOf yX11_bestOf, Cond.code yX11_bestOf cX11_bestOf 10 (some .int), Cond.methodLink RX11 216 yX11_canBe, Cond.instanceMethod yX11_canBe, Cond.selects RX11 yX11_canBe yX11_canBe, Cond.code yX11_canBe cX11_canBe 5 (some .boolean), Cond.methodLink RL 83 yX10_orderly, Cond.instanceMethod yX10_orderly, Cond.selects RX10 yX10_orderly yX10_orderly, Cond.code yX10_orderly cX10_orderly 2 (some .int)]
def wsL_law_r30 : List Cond := [Cond.fieldLink RX10 209 "BiteFirst$Thought" "order" "I", Cond.fieldLink RX10 212 "BiteFirst$Thought" "orderGains" "I", Cond.methodLink RX10 201 yX8_startFrom, Cond.instanceMethod yX8_startFrom, Cond.selects RX8 yX8_startFrom yX8_startFrom, Cond.code yX8_startFrom cX8_startFrom 2 none, Cond.fieldLink RX8 24 "BiteFirst$Thought" "order" "I", Cond.fieldLink RX8 28 "BiteFirst$Thought" "orderGains" "I", Cond.methodLink RX8 20 yX4_become, Cond.instanceMethod yX4_become, Cond.selects RX4 yX4_become yX4_become, Cond.code yX4_become cX4_become 3 none, Cond.methodLink RX4 37 yX1_become, Cond.instanceMethod yX1_become, Cond.selects RX1 yX1_become yX1_become, Cond.code yX1_become cX1_become 2 none, Cond.methodLink RX4 44 yX3_become, Cond.instanceMethod yX3_become, Cond.selects RX3 yX3_become yX3_become, Cond.code yX3_become cX3_become 2 none, Cond.methodLink RX3 22 arraycopyName, Cond.instanceMethod yX8_tryOrders, Cond.selects RX8 yX8_tryOrders yX8_tryOrders, Cond.code yX8_tryOrders cX8_tryOrders 6 none]
def wsL_law_r31 : List Cond := [Cond.fieldLink RX8 31 "BiteFirst$Scene" "eaterCount" "I", Cond.methodLink RX8 34 yX8_tryNext, Cond.instanceMethod yX8_tryNext, Cond.selects RX8 yX8_tryNext yX8_tryNext, Cond.code yX8_tryNext cX8_tryNext 11 none, Cond.fieldLink RX8 38 "BiteFirst$Scene" "eaters" "[LBiteFirst$Eater;", Cond.fieldLink RX8 54 "BiteFirst$Eater" "purse" "I", Cond.fieldLink RX8 59 "BiteFirst$Eater" "had" "I", Cond.fieldLink RX8 62 "BiteFirst$Good" "left" "I", Cond.fieldLink RX8 75 "BiteFirst$Scene" "gain" "I", Cond.methodLink RX8 42 yX4_findBest, Cond.methodLink RX8 46 yX4_goodOfBest, Cond.instanceMethod yX4_goodOfBest, Cond.selects RX4 yX4_goodOfBest yX4_goodOfBest, Cond.code yX4_goodOfBest cX4_goodOfBest 1 (some (.object "BiteFirst$Good")), Cond.methodLink RX4 131 yX4_goodAt, Cond.methodLink RX8 50 yX8_tryOrders, Cond.methodLink RX8 67 yX4_placeOfBest, Cond.instanceMethod yX4_placeOfBest, Cond.selects RX4 yX4_placeOfBest yX4_placeOfBest, Cond.code yX4_placeOfBest cX4_placeOfBest 1 (some .int), Cond.methodLink RX8 71 yX4_tryBite, Cond.methodLink RX8 78 yX1_giveBack, Cond.instanceMethod yX1_giveBack]
def wsL_law_r32 : List Cond := [Cond.selects RX1 yX1_giveBack yX1_giveBack, Cond.code yX1_giveBack cX1_giveBack 5 none, Cond.methodLink RL 86 yX11_orderly, Cond.instanceMethod yX11_orderly, Cond.selects RX11 yX11_orderly yX11_orderly, Cond.code yX11_orderly cX11_orderly 9 (some .int), Cond.methodLink RX11 228 yX11_tells, Cond.instanceMethod yX11_tells, Cond.selects RX11 yX11_tells yX11_tells, Cond.code yX11_tells cX11_tells 5 (some .boolean), Cond.methodLink RX11 231 yX11_gainsByOrder, Cond.instanceMethod yX11_gainsByOrder, Cond.selects RX11 yX11_gainsByOrder yX11_gainsByOrder, Cond.code yX11_gainsByOrder cX11_gainsByOrder 4 (some .int), Cond.methodLink RX11 222 yX11_keeps, Cond.instanceMethod yX11_keeps, Cond.selects RX11 yX11_keeps yX11_keeps, Cond.code yX11_keeps cX11_keeps 2 none, Cond.methodLink RX11 225 yX11_laysBack, Cond.instanceMethod yX11_laysBack, Cond.selects RX11 yX11_laysBack yX11_laysBack, Cond.code yX11_laysBack cX11_laysBack 2 none, Cond.methodLink RL 87 yX10_duel, Cond.instanceMethod yX10_duel]
def wsL_law_r33 : List Cond := [Cond.selects RX10 yX10_duel yX10_duel, Cond.code yX10_duel cX10_duel 8 (some .int), Cond.fieldLink RX10 215 "BiteFirst$Thought" "scene" "LBiteFirst$Scene;", Cond.constant RX10 218 (-1000005), Cond.constant RX10 219 (-1000007), Cond.fieldLink RX10 224 "BiteFirst$Thought" "duelBite" "I", Cond.instanceMethod yX8_tryDuel, Cond.selects RX8 yX8_tryDuel yX8_tryDuel, Cond.code yX8_tryDuel cX8_tryDuel 8 (some .int), Cond.constant RX8 82 (-1000000), Cond.fieldLink RX8 83 "BiteFirst$Scene" "goodCount" "I", Cond.fieldLink RX8 98 "BiteFirst$Thought" "duelBite" "I", Cond.methodLink RX8 86 yX8_tryTurn, Cond.instanceMethod yX8_tryTurn, Cond.selects RX8 yX8_tryTurn yX8_tryTurn, Cond.methodLink RX8 90 yX4_tellBite, Cond.methodLink RX8 94 yX8_tryDuel, Cond.code yX8_tryTurn cX8_tryTurn 11 (some .int), Cond.fieldLink RX8 101 "BiteFirst$Scene" "goods" "[LBiteFirst$Good;", Cond.methodLink RL 90 yX11_duel, Cond.instanceMethod yX11_duel, Cond.selects RX11 yX11_duel yX11_duel, Cond.code yX11_duel cX11_duel 10 (some .int), Cond.constant RX11 234 (-1000005)]
def wsL_law_r34 : List Cond := [Cond.constant RX11 235 (-1000007), Cond.methodLink RX11 236 yX11_duelOne, Cond.instanceMethod yX11_duelOne, Cond.selects RX11 yX11_duelOne yX11_duelOne, Cond.code yX11_duelOne cX11_duelOne 7 (some .int), Cond.methodLink RL 91 yX10_fewest, Cond.instanceMethod yX10_fewest, Cond.selects RX10 yX10_fewest yX10_fewest, Cond.code yX10_fewest cX10_fewest 5 (some .int), Cond.fieldLink RX10 227 "BiteFirst$Good" "left" "I", Cond.methodLink RX10 230 yX0_fewestBites, Cond.instanceMethod yX0_fewestBites, Cond.selects RX0 yX0_fewestBites yX0_fewestBites, Cond.code yX0_fewestBites cX0_fewestBites 8 (some .int), Cond.methodLink RX0 21 Lib.Math.min.name, Cond.methodLink RX0 15 yJ6_bitCount_0f7a4, Cond.methodLink RL 94 yX11_fewest, Cond.instanceMethod yX11_fewest, Cond.selects RX11 yX11_fewest yX11_fewest, Cond.code yX11_fewest cX11_fewest 3 (some .int), Cond.methodLink RX11 239 yX11_fewestOf, Cond.instanceMethod yX11_fewestOf, Cond.selects RX11 yX11_fewestOf yX11_fewestOf, Cond.code yX11_fewestOf cX11_fewestOf 10 (some .int)]
def wsL_law_r35 : List Cond := [Cond.methodLink RL 95 yX10_soonest, Cond.instanceMethod yX10_soonest, Cond.selects RX10 yX10_soonest yX10_soonest, Cond.code yX10_soonest cX10_soonest 8 (some .int), Cond.fieldLink RX10 233 "BiteFirst$Scene" "eaters" "[LBiteFirst$Eater;", Cond.methodLink RL 98 yX11_soonest, Cond.instanceMethod yX11_soonest, Cond.selects RX11 yX11_soonest yX11_soonest, Cond.code yX11_soonest cX11_soonest 8 (some .int), Cond.methodLink RL 99 yX10_hire, Cond.instanceMethod yX10_hire, Cond.selects RX10 yX10_hire yX10_hire, Cond.code yX10_hire cX10_hire 5 (some .int), Cond.fieldLink RX10 241 "BiteFirst$Fitting" "gain" "I", Cond.methodLink RX10 237 yX2_findTeeth, Cond.instanceMethod yX2_findTeeth, Cond.selects RX2 yX2_findTeeth yX2_findTeeth, Cond.code yX2_findTeeth cX2_findTeeth 5 (some .int), Cond.fieldLink RX2 27 "BiteFirst$Scene" "bestGain" "I", Cond.fieldLink RX2 31 "BiteFirst$Fitting" "gain" "I", Cond.fieldLink RX2 34 "BiteFirst$Eater" "kind" "I", Cond.fieldLink RX2 37 "BiteFirst$Eater" "more" "I", Cond.methodLink RX2 18 yX1_become, Cond.methodLink RX2 22 yX4_findBest]
def wsL_law_r36 : List Cond := [Cond.methodLink RL 102 yX11_hire, Cond.instanceMethod yX11_hire, Cond.selects RX11 yX11_hire yX11_hire, Cond.code yX11_hire cX11_hire 10 (some .int), Cond.methodLink RL 103 yX10_whose, Cond.instanceMethod yX10_whose, Cond.selects RX10 yX10_whose yX10_whose, Cond.code yX10_whose cX10_whose 6 (some .int), Cond.methodLink RX10 244 yX10_isMarkOf, Cond.static yX10_isMarkOf, Cond.code yX10_isMarkOf cX10_isMarkOf 2 (some .boolean), Cond.methodLink RX10 248 yX1_canLeave, Cond.instanceMethod yX1_canLeave, Cond.selects RX1 yX1_canLeave yX1_canLeave, Cond.code yX1_canLeave cX1_canLeave 4 (some .boolean), Cond.methodLink RX1 36 yX1_markOf, Cond.methodLink RL 106 yX11_whose, Cond.instanceMethod yX11_whose, Cond.selects RX11 yX11_whose yX11_whose, Cond.code yX11_whose cX11_whose 5 (some .int), Cond.methodLink RX11 242 yX11_isMark, Cond.instanceMethod yX11_isMark, Cond.selects RX11 yX11_isMark yX11_isMark, Cond.code yX11_isMark cX11_isMark 3 (some .boolean)]
def wsL_law_r37 : List Cond := [Cond.methodLink RX11 246 yX11_makes, Cond.instanceMethod yX11_makes, Cond.selects RX11 yX11_makes yX11_makes, Cond.code yX11_makes cX11_makes 5 (some .boolean), Cond.methodLink RL 107 yX10_kinds, Cond.instanceMethod yX10_kinds, Cond.selects RX10 yX10_kinds yX10_kinds, Cond.code yX10_kinds cX10_kinds 7 (some .int), Cond.methodLink RX10 251 yX2_kindsLeaving, Cond.instanceMethod yX2_kindsLeaving, Cond.selects RX2 yX2_kindsLeaving yX2_kindsLeaving, Cond.code yX2_kindsLeaving cX2_kindsLeaving 6 (some .int), Cond.methodLink RX2 40 yX1_canLeave, Cond.methodLink RX10 254 yX2_moresLeaving, Cond.instanceMethod yX2_moresLeaving, Cond.selects RX2 yX2_moresLeaving yX2_moresLeaving, Cond.code yX2_moresLeaving cX2_moresLeaving 6 (some .int), Cond.methodLink RX10 257 yX2_countJaws, Cond.instanceMethod yX2_countJaws, Cond.selects RX2 yX2_countJaws yX2_countJaws, Cond.code yX2_countJaws cX2_countJaws 6 (some .int), Cond.fieldLink RX2 44 "BiteFirst$Eater" "jaw" "I", Cond.methodLink RX10 260 yX2_leastJaw, Cond.instanceMethod yX2_leastJaw]
def wsL_law_r38 : List Cond := [Cond.selects RX2 yX2_leastJaw yX2_leastJaw, Cond.code yX2_leastJaw cX2_leastJaw 5 (some .int), Cond.methodLink RL 110 yX11_kinds, Cond.instanceMethod yX11_kinds, Cond.selects RX11 yX11_kinds yX11_kinds, Cond.code yX11_kinds cX11_kinds 9 (some .int), Cond.methodLink RX11 249 yX11_jaws, Cond.instanceMethod yX11_jaws, Cond.selects RX11 yX11_jaws yX11_jaws, Cond.code yX11_jaws cX11_jaws 10 (some .int), Cond.methodLink RL 111 yX10_judge, Cond.instanceMethod yX10_judge, Cond.selects RX10 yX10_judge yX10_judge, Cond.code yX10_judge cX10_judge 3 (some .int), Cond.methodLink RX10 263 yX10_refusalOfDay, Cond.instanceMethod yX10_refusalOfDay, Cond.selects RX10 yX10_refusalOfDay yX10_refusalOfDay, Cond.code yX10_refusalOfDay cX10_refusalOfDay 4 (some .int), Cond.fieldLink RX10 297 "BiteFirst$Sheet" "sort" "I", Cond.fieldLink RX10 300 "BiteFirst$Sheet" "size" "I", Cond.fieldLink RX10 304 "BiteFirst$Sheet" "numbers" "[I", Cond.methodLink RX10 270 yX10_sheetAt, Cond.instanceMethod yX10_sheetAt, Cond.selects RX10 yX10_sheetAt yX10_sheetAt]
def wsL_law_r39 : List Cond := [Cond.code yX10_sheetAt cX10_sheetAt 2 (some (.object "BiteFirst$Sheet")), Cond.methodLink RX10 266 yX8_followDay, Cond.instanceMethod yX8_followDay, Cond.selects RX8 yX8_followDay yX8_followDay, Cond.code yX8_followDay cX8_followDay 5 (some .int), Cond.fieldLink RX8 105 "BiteFirst$Sheet" "size" "I", Cond.fieldLink RX8 110 "BiteFirst$Sheet" "numbers" "[I", Cond.methodLink RX8 114 yX4_eaterAt, Cond.methodLink RX8 118 yX4_goodAt, Cond.methodLink RL 114 yX11_judge, Cond.instanceMethod yX11_judge, Cond.selects RX11 yX11_judge yX11_judge, Cond.code yX11_judge cX11_judge 3 (some .int), Cond.methodLink RX11 256 yX11_sheetWrong, Cond.instanceMethod yX11_sheetWrong, Cond.selects RX11 yX11_sheetWrong yX11_sheetWrong, Cond.code yX11_sheetWrong cX11_sheetWrong 5 (some .int), Cond.methodLink RX11 259 yX11_firstWrong, Cond.instanceMethod yX11_firstWrong, Cond.selects RX11 yX11_firstWrong yX11_firstWrong, Cond.code yX11_firstWrong cX11_firstWrong 3 (some .int), Cond.methodLink RX11 253 yX11_bitesBy, Cond.instanceMethod yX11_bitesBy, Cond.selects RX11 yX11_bitesBy yX11_bitesBy]
def wsL_law_r40 : List Cond := [Cond.code yX11_bitesBy cX11_bitesBy 4 (some .int), Cond.methodLink RL 115 yX10_ends, Cond.instanceMethod yX10_ends, Cond.selects RX10 yX10_ends yX10_ends, Cond.code yX10_ends cX10_ends 6 (some .int), Cond.methodLink RL 118 yX11_ends, Cond.instanceMethod yX11_ends, Cond.selects RX11 yX11_ends yX11_ends, Cond.code yX11_ends cX11_ends 6 (some .int), Cond.methodLink RL 119 yX10_laws, Cond.instanceMethod yX10_laws, Cond.selects RX10 yX10_laws yX10_laws, Cond.code yX10_laws cX10_laws 5 (some .int), Cond.methodLink RL 122 yX11_laws, Cond.instanceMethod yX11_laws, Cond.selects RX11 yX11_laws yX11_laws, Cond.code yX11_laws cX11_laws 6 (some .int), Cond.methodLink RL 123 yX10_film, Cond.instanceMethod yX10_film, Cond.selects RX10 yX10_film yX10_film, Cond.code yX10_film cX10_film 4 (some .int), Cond.methodLink RX10 274 yX8_takeTurns, Cond.instanceMethod yX8_takeTurns, Cond.selects RX8 yX8_takeTurns yX8_takeTurns]
def wsL_law_r41 : List Cond := [Cond.code yX8_takeTurns cX8_takeTurns 7 (some .int), Cond.fieldLink RX8 130 "BiteFirst$Scene" "bestBite" "I", Cond.methodLink RX8 122 yX5_becomeRow, Cond.instanceMethod yX5_becomeRow, Cond.selects RX5 yX5_becomeRow yX5_becomeRow, Cond.code yX5_becomeRow cX5_becomeRow 4 none, Cond.fieldLink RX5 19 "BiteFirst$Sheet" "size" "I", Cond.methodLink RX8 126 yX5_add, Cond.instanceMethod yX5_add, Cond.selects RX5 yX5_add yX5_add, Cond.code yX5_add cX5_add 2 none, Cond.methodLink RX5 26 yX5_write, Cond.instanceMethod yX5_write, Cond.selects RX5 yX5_write yX5_write, Cond.code yX5_write cX5_write 3 none, Cond.methodLink RL 126 yX11_film, Cond.instanceMethod yX11_film, Cond.selects RX11 yX11_film yX11_film, Cond.code yX11_film cX11_film 7 (some .int), Cond.methodLink RL 127 yX10_drawn, Cond.instanceMethod yX10_drawn, Cond.selects RX10 yX10_drawn yX10_drawn, Cond.code yX10_drawn cX10_drawn 6 (some .int), Cond.constant RX10 278 (99999)]
def wsL_law_r42 : List Cond := [Cond.methodLink RX10 279 yX8_drawDay, Cond.instanceMethod yX8_drawDay, Cond.selects RX8 yX8_drawDay yX8_drawDay, Cond.code yX8_drawDay cX8_drawDay 8 none, Cond.constantLong RX8 133 (48271), Cond.constantLong RX8 135 (2147483647), Cond.constantLong RX8 137 (8), Cond.constantLong RX8 139 (64), Cond.constantLong RX8 141 (16), Cond.methodLink RL 130 yX11_drawn, Cond.instanceMethod yX11_drawn, Cond.selects RX11 yX11_drawn yX11_drawn, Cond.code yX11_drawn cX11_drawn 5 (some .int), Cond.constant RX11 278 (99999), Cond.fieldLink RX11 272 "BiteFirstModel" "lotHad" "I", Cond.fieldLink RX11 275 "BiteFirstModel" "lotPurse" "I", Cond.methodLink RX11 279 yX11_dayBy, Cond.instanceMethod yX11_dayBy, Cond.selects RX11 yX11_dayBy yX11_dayBy, Cond.code yX11_dayBy cX11_dayBy 10 none, Cond.constantLong RX11 262 (48271), Cond.constantLong RX11 264 (2147483647), Cond.constantLong RX11 266 (8), Cond.constantLong RX11 268 (64)]
def wsL_law_r43 : List Cond := [Cond.constantLong RX11 270 (16), Cond.methodLink RL 131 yX10_odds, Cond.instanceMethod yX10_odds, Cond.selects RX10 yX10_odds yX10_odds, Cond.code yX10_odds cX10_odds 11 (some .long), Cond.constantLong RX10 282 (-4611686018427387904), Cond.methodLink RX10 284 yX10_commonDivisor, Cond.static yX10_commonDivisor, Cond.code yX10_commonDivisor cX10_commonDivisor 3 (some .int), Cond.methodLink RL 135 yX11_odds, Cond.instanceMethod yX11_odds, Cond.selects RX11 yX11_odds yX11_odds, Cond.code yX11_odds cX11_odds 10 (some .long), Cond.constantLong RX11 283 (-4611686018427387904), Cond.methodLink RX11 285 yX11_lowest, Cond.static yX11_lowest, Cond.code yX11_lowest cX11_lowest 11 (some .long), Cond.methodLink RL 136 yX10_image, Cond.instanceMethod yX10_image, Cond.selects RX10 yX10_image yX10_image, Cond.code yX10_image cX10_image 1 (some .int), Cond.fieldLink RX10 290 "BiteFirst" "hasImage" "Z", Cond.methodLink RX10 287 yX4_become, Cond.methodLink RL 139 yX11_image]
def wsL_law_r44 : List Cond := [Cond.instanceMethod yX11_image, Cond.selects RX11 yX11_image yX11_image, Cond.code yX11_image cX11_image 2 (some .int), Cond.fieldLink RX11 289 "BiteFirstModel" "hasImage" "Z", Cond.methodLink RL 140 yX10_back, Cond.instanceMethod yX10_back, Cond.selects RX10 yX10_back yX10_back, Cond.code yX10_back cX10_back 1 (some .int), Cond.methodLink RL 143 yX11_back, Cond.instanceMethod yX11_back, Cond.selects RX11 yX11_back yX11_back, Cond.code yX11_back cX11_back 2 (some .int), Cond.methodLink RL 144 yX10_sheet, Cond.instanceMethod yX10_sheet, Cond.selects RX10 yX10_sheet yX10_sheet, Cond.code yX10_sheet cX10_sheet 5 (some .int), Cond.methodLink RX10 294 yX5_becomeRow, Cond.methodLink RL 147 yX11_sheet, Cond.instanceMethod yX11_sheet, Cond.selects RX11 yX11_sheet yX11_sheet, Cond.code yX11_sheet cX11_sheet 5 (some .int), Cond.methodLink RL 148 yX10_cell, Cond.instanceMethod yX10_cell, Cond.selects RX10 yX10_cell yX10_cell]
def wsL_law_r45 : List Cond := [Cond.code yX10_cell cX10_cell 5 (some .int), Cond.methodLink RX10 302 yX5_write, Cond.methodLink RL 151 yX11_cell, Cond.instanceMethod yX11_cell, Cond.selects RX11 yX11_cell yX11_cell, Cond.code yX11_cell cX11_cell 4 (some .int), Cond.methodLink RL 152 yX10_copy, Cond.instanceMethod yX10_copy, Cond.selects RX10 yX10_copy yX10_copy, Cond.code yX10_copy cX10_copy 8 (some .int), Cond.methodLink RX10 308 arraycopyName, Cond.methodLink RL 156 yX11_copy, Cond.instanceMethod yX11_copy, Cond.selects RX11 yX11_copy yX11_copy, Cond.code yX11_copy cX11_copy 10 (some .int), Cond.methodLink RL 157 yX10_eatersBy, Cond.instanceMethod yX10_eatersBy, Cond.selects RX10 yX10_eatersBy yX10_eatersBy, Cond.code yX10_eatersBy cX10_eatersBy 9 (some .int), Cond.methodLink RL 160 yX11_eatersBy, Cond.instanceMethod yX11_eatersBy, Cond.selects RX11 yX11_eatersBy yX11_eatersBy, Cond.code yX11_eatersBy cX11_eatersBy 9 (some .int), Cond.methodLink RX11 293 yX11_eater]
def wsL_law_r46 : List Cond := [Cond.methodLink RL 161 yX10_taken, Cond.instanceMethod yX10_taken, Cond.selects RX10 yX10_taken yX10_taken, Cond.code yX10_taken cX10_taken 5 (some .int), Cond.methodLink RX10 314 yX1_isOf, Cond.instanceMethod yX1_isOf, Cond.selects RX1 yX1_isOf yX1_isOf, Cond.code yX1_isOf cX1_isOf 2 (some .boolean), Cond.methodLink RL 164 yX11_taken, Cond.instanceMethod yX11_taken, Cond.selects RX11 yX11_taken yX11_taken, Cond.code yX11_taken cX11_taken 3 (some .int), Cond.methodLink RX11 296 yX11_isUnder, Cond.static yX11_isUnder, Cond.code yX11_isUnder cX11_isUnder 2 (some .boolean)]
def wsL_law : List Cond := (wsL_law_r1 ++ (wsL_law_r2 ++ (wsL_law_r3 ++ (wsL_law_r4 ++ (wsL_law_r5 ++ (wsL_law_r6 ++ (wsL_law_r7 ++ (wsL_law_r8 ++ (wsL_law_r9 ++ (wsL_law_r10 ++ (wsL_law_r11 ++ (wsL_law_r12 ++ (wsL_law_r13 ++ (wsL_law_r14 ++ (wsL_law_r15 ++ (wsL_law_r16 ++ (wsL_law_r17 ++ (wsL_law_r18 ++ (wsL_law_r19 ++ (wsL_law_r20 ++ (wsL_law_r21 ++ (wsL_law_r22 ++ (wsL_law_r23 ++ (wsL_law_r24 ++ (wsL_law_r25 ++ (wsL_law_r26 ++ (wsL_law_r27 ++ (wsL_law_r28 ++ (wsL_law_r29 ++ (wsL_law_r30 ++ (wsL_law_r31 ++ (wsL_law_r32 ++ (wsL_law_r33 ++ (wsL_law_r34 ++ (wsL_law_r35 ++ (wsL_law_r36 ++ (wsL_law_r37 ++ (wsL_law_r38 ++ (wsL_law_r39 ++ (wsL_law_r40 ++ (wsL_law_r41 ++ (wsL_law_r42 ++ (wsL_law_r43 ++ (wsL_law_r44 ++ (wsL_law_r45 ++ wsL_law_r46))))))))))))))))))))))))))))))))))))))))))))) ++ wsX100 ++ wsX110 ++ wsX60 ++ wsX20 ++ wsX00 ++ wsX40 ++ wsX80 ++ wsX50 ++ wsX10 ++ wsX70 ++ wsX30 ++ ([] : List Cond)
theorem inJ6 : ∀ w ∈ wsJ60, w ∈ lw_tbl := by decide +kernel
theorem inJ9 : ∀ w ∈ wsJ90, w ∈ lw_tbl := by decide +kernel
theorem inJ0 : ∀ w ∈ wsJ00, w ∈ lw_tbl := by decide +kernel
theorem inJ1 : ∀ w ∈ wsJ10, w ∈ lw_tbl := by decide +kernel
theorem inJ2 : ∀ w ∈ wsJ20, w ∈ lw_tbl := by decide +kernel
theorem inJ10 : ∀ w ∈ wsJ100, w ∈ lw_tbl := by decide +kernel
theorem inJ3 : ∀ w ∈ wsJ30, w ∈ lw_tbl := by decide +kernel
abbrev vwCl : List vw_C := [(RX0, TX0, 1), (RX1, TX1, 5), (RX2, TX2, 2), (RX3, TX3, 3), (RX4, TX4, 10), (RX5, TX5, 3), (RX6, TX6, 11), (RX7, TX7, 5), (RX8, TX8, 4), (RX10, TX10, 10), (RX11, TX11, 38)]
theorem WA_good : wsL_law.all goodWord = true := by decide +kernel
theorem wa_1 : ∀ w ∈ wsL_law_r1, w ∈ wsL_law := fun _ h => (List.mem_append_left _ (List.mem_append_left _ (List.mem_append_left _ (List.mem_append_left _ (List.mem_append_left _ (List.mem_append_left _ (List.mem_append_left _ (List.mem_append_left _ (List.mem_append_left _ (List.mem_append_left _ (List.mem_append_left _ (List.mem_append_left _ (List.mem_append_left _ h)))))))))))))
theorem wa_2 : ∀ w ∈ wsL_law_r2, w ∈ wsL_law := fun _ h => (List.mem_append_left _ (List.mem_append_left _ (List.mem_append_left _ (List.mem_append_left _ (List.mem_append_left _ (List.mem_append_left _ (List.mem_append_left _ (List.mem_append_left _ (List.mem_append_left _ (List.mem_append_left _ (List.mem_append_left _ (List.mem_append_left _ (List.mem_append_right _ (List.mem_append_left _ h))))))))))))))
theorem wa_3 : ∀ w ∈ wsL_law_r3, w ∈ wsL_law := fun _ h => (List.mem_append_left _ (List.mem_append_left _ (List.mem_append_left _ (List.mem_append_left _ (List.mem_append_left _ (List.mem_append_left _ (List.mem_append_left _ (List.mem_append_left _ (List.mem_append_left _ (List.mem_append_left _ (List.mem_append_left _ (List.mem_append_left _ (List.mem_append_right _ (List.mem_append_right _ (List.mem_append_left _ h)))))))))))))))
theorem wa_4 : ∀ w ∈ wsL_law_r4, w ∈ wsL_law := fun _ h => (List.mem_append_left _ (List.mem_append_left _ (List.mem_append_left _ (List.mem_append_left _ (List.mem_append_left _ (List.mem_append_left _ (List.mem_append_left _ (List.mem_append_left _ (List.mem_append_left _ (List.mem_append_left _ (List.mem_append_left _ (List.mem_append_left _ (List.mem_append_right _ (List.mem_append_right _ (List.mem_append_right _ (List.mem_append_left _ h))))))))))))))))
theorem wa_5 : ∀ w ∈ wsL_law_r5, w ∈ wsL_law := fun _ h => (List.mem_append_left _ (List.mem_append_left _ (List.mem_append_left _ (List.mem_append_left _ (List.mem_append_left _ (List.mem_append_left _ (List.mem_append_left _ (List.mem_append_left _ (List.mem_append_left _ (List.mem_append_left _ (List.mem_append_left _ (List.mem_append_left _ (List.mem_append_right _ (List.mem_append_right _ (List.mem_append_right _ (List.mem_append_right _ (List.mem_append_left _ h)))))))))))))))))
theorem wa_6 : ∀ w ∈ wsL_law_r6, w ∈ wsL_law := fun _ h => (List.mem_append_left _ (List.mem_append_left _ (List.mem_append_left _ (List.mem_append_left _ (List.mem_append_left _ (List.mem_append_left _ (List.mem_append_left _ (List.mem_append_left _ (List.mem_append_left _ (List.mem_append_left _ (List.mem_append_left _ (List.mem_append_left _ (List.mem_append_right _ (List.mem_append_right _ (List.mem_append_right _ (List.mem_append_right _ (List.mem_append_right _ (List.mem_append_left _ h))))))))))))))))))
theorem wa_7 : ∀ w ∈ wsL_law_r7, w ∈ wsL_law := fun _ h => (List.mem_append_left _ (List.mem_append_left _ (List.mem_append_left _ (List.mem_append_left _ (List.mem_append_left _ (List.mem_append_left _ (List.mem_append_left _ (List.mem_append_left _ (List.mem_append_left _ (List.mem_append_left _ (List.mem_append_left _ (List.mem_append_left _ (List.mem_append_right _ (List.mem_append_right _ (List.mem_append_right _ (List.mem_append_right _ (List.mem_append_right _ (List.mem_append_right _ (List.mem_append_left _ h)))))))))))))))))))
theorem wa_8 : ∀ w ∈ wsL_law_r8, w ∈ wsL_law := fun _ h => (List.mem_append_left _ (List.mem_append_left _ (List.mem_append_left _ (List.mem_append_left _ (List.mem_append_left _ (List.mem_append_left _ (List.mem_append_left _ (List.mem_append_left _ (List.mem_append_left _ (List.mem_append_left _ (List.mem_append_left _ (List.mem_append_left _ (List.mem_append_right _ (List.mem_append_right _ (List.mem_append_right _ (List.mem_append_right _ (List.mem_append_right _ (List.mem_append_right _ (List.mem_append_right _ (List.mem_append_left _ h))))))))))))))))))))
theorem wa_9 : ∀ w ∈ wsL_law_r9, w ∈ wsL_law := fun _ h => (List.mem_append_left _ (List.mem_append_left _ (List.mem_append_left _ (List.mem_append_left _ (List.mem_append_left _ (List.mem_append_left _ (List.mem_append_left _ (List.mem_append_left _ (List.mem_append_left _ (List.mem_append_left _ (List.mem_append_left _ (List.mem_append_left _ (List.mem_append_right _ (List.mem_append_right _ (List.mem_append_right _ (List.mem_append_right _ (List.mem_append_right _ (List.mem_append_right _ (List.mem_append_right _ (List.mem_append_right _ (List.mem_append_left _ h)))))))))))))))))))))
theorem wa_10 : ∀ w ∈ wsL_law_r10, w ∈ wsL_law := fun _ h => (List.mem_append_left _ (List.mem_append_left _ (List.mem_append_left _ (List.mem_append_left _ (List.mem_append_left _ (List.mem_append_left _ (List.mem_append_left _ (List.mem_append_left _ (List.mem_append_left _ (List.mem_append_left _ (List.mem_append_left _ (List.mem_append_left _ (List.mem_append_right _ (List.mem_append_right _ (List.mem_append_right _ (List.mem_append_right _ (List.mem_append_right _ (List.mem_append_right _ (List.mem_append_right _ (List.mem_append_right _ (List.mem_append_right _ (List.mem_append_left _ h))))))))))))))))))))))
theorem wa_11 : ∀ w ∈ wsL_law_r11, w ∈ wsL_law := fun _ h => (List.mem_append_left _ (List.mem_append_left _ (List.mem_append_left _ (List.mem_append_left _ (List.mem_append_left _ (List.mem_append_left _ (List.mem_append_left _ (List.mem_append_left _ (List.mem_append_left _ (List.mem_append_left _ (List.mem_append_left _ (List.mem_append_left _ (List.mem_append_right _ (List.mem_append_right _ (List.mem_append_right _ (List.mem_append_right _ (List.mem_append_right _ (List.mem_append_right _ (List.mem_append_right _ (List.mem_append_right _ (List.mem_append_right _ (List.mem_append_right _ (List.mem_append_left _ h)))))))))))))))))))))))
theorem wa_12 : ∀ w ∈ wsL_law_r12, w ∈ wsL_law := fun _ h => (List.mem_append_left _ (List.mem_append_left _ (List.mem_append_left _ (List.mem_append_left _ (List.mem_append_left _ (List.mem_append_left _ (List.mem_append_left _ (List.mem_append_left _ (List.mem_append_left _ (List.mem_append_left _ (List.mem_append_left _ (List.mem_append_left _ (List.mem_append_right _ (List.mem_append_right _ (List.mem_append_right _ (List.mem_append_right _ (List.mem_append_right _ (List.mem_append_right _ (List.mem_append_right _ (List.mem_append_right _ (List.mem_append_right _ (List.mem_append_right _ (List.mem_append_right _ (List.mem_append_left _ h))))))))))))))))))))))))
theorem wa_13 : ∀ w ∈ wsL_law_r13, w ∈ wsL_law := fun _ h => (List.mem_append_left _ (List.mem_append_left _ (List.mem_append_left _ (List.mem_append_left _ (List.mem_append_left _ (List.mem_append_left _ (List.mem_append_left _ (List.mem_append_left _ (List.mem_append_left _ (List.mem_append_left _ (List.mem_append_left _ (List.mem_append_left _ (List.mem_append_right _ (List.mem_append_right _ (List.mem_append_right _ (List.mem_append_right _ (List.mem_append_right _ (List.mem_append_right _ (List.mem_append_right _ (List.mem_append_right _ (List.mem_append_right _ (List.mem_append_right _ (List.mem_append_right _ (List.mem_append_right _ (List.mem_append_left _ h)))))))))))))))))))))))))
theorem wa_14 : ∀ w ∈ wsL_law_r14, w ∈ wsL_law := fun _ h => (List.mem_append_left _ (List.mem_append_left _ (List.mem_append_left _ (List.mem_append_left _ (List.mem_append_left _ (List.mem_append_left _ (List.mem_append_left _ (List.mem_append_left _ (List.mem_append_left _ (List.mem_append_left _ (List.mem_append_left _ (List.mem_append_left _ (List.mem_append_right _ (List.mem_append_right _ (List.mem_append_right _ (List.mem_append_right _ (List.mem_append_right _ (List.mem_append_right _ (List.mem_append_right _ (List.mem_append_right _ (List.mem_append_right _ (List.mem_append_right _ (List.mem_append_right _ (List.mem_append_right _ (List.mem_append_right _ (List.mem_append_left _ h))))))))))))))))))))))))))
theorem wa_15 : ∀ w ∈ wsL_law_r15, w ∈ wsL_law := fun _ h => (List.mem_append_left _ (List.mem_append_left _ (List.mem_append_left _ (List.mem_append_left _ (List.mem_append_left _ (List.mem_append_left _ (List.mem_append_left _ (List.mem_append_left _ (List.mem_append_left _ (List.mem_append_left _ (List.mem_append_left _ (List.mem_append_left _ (List.mem_append_right _ (List.mem_append_right _ (List.mem_append_right _ (List.mem_append_right _ (List.mem_append_right _ (List.mem_append_right _ (List.mem_append_right _ (List.mem_append_right _ (List.mem_append_right _ (List.mem_append_right _ (List.mem_append_right _ (List.mem_append_right _ (List.mem_append_right _ (List.mem_append_right _ (List.mem_append_left _ h)))))))))))))))))))))))))))
theorem wa_16 : ∀ w ∈ wsL_law_r16, w ∈ wsL_law := fun _ h => (List.mem_append_left _ (List.mem_append_left _ (List.mem_append_left _ (List.mem_append_left _ (List.mem_append_left _ (List.mem_append_left _ (List.mem_append_left _ (List.mem_append_left _ (List.mem_append_left _ (List.mem_append_left _ (List.mem_append_left _ (List.mem_append_left _ (List.mem_append_right _ (List.mem_append_right _ (List.mem_append_right _ (List.mem_append_right _ (List.mem_append_right _ (List.mem_append_right _ (List.mem_append_right _ (List.mem_append_right _ (List.mem_append_right _ (List.mem_append_right _ (List.mem_append_right _ (List.mem_append_right _ (List.mem_append_right _ (List.mem_append_right _ (List.mem_append_right _ (List.mem_append_left _ h))))))))))))))))))))))))))))
theorem wa_17 : ∀ w ∈ wsL_law_r17, w ∈ wsL_law := fun _ h => (List.mem_append_left _ (List.mem_append_left _ (List.mem_append_left _ (List.mem_append_left _ (List.mem_append_left _ (List.mem_append_left _ (List.mem_append_left _ (List.mem_append_left _ (List.mem_append_left _ (List.mem_append_left _ (List.mem_append_left _ (List.mem_append_left _ (List.mem_append_right _ (List.mem_append_right _ (List.mem_append_right _ (List.mem_append_right _ (List.mem_append_right _ (List.mem_append_right _ (List.mem_append_right _ (List.mem_append_right _ (List.mem_append_right _ (List.mem_append_right _ (List.mem_append_right _ (List.mem_append_right _ (List.mem_append_right _ (List.mem_append_right _ (List.mem_append_right _ (List.mem_append_right _ (List.mem_append_left _ h)))))))))))))))))))))))))))))
theorem wa_18 : ∀ w ∈ wsL_law_r18, w ∈ wsL_law := fun _ h => (List.mem_append_left _ (List.mem_append_left _ (List.mem_append_left _ (List.mem_append_left _ (List.mem_append_left _ (List.mem_append_left _ (List.mem_append_left _ (List.mem_append_left _ (List.mem_append_left _ (List.mem_append_left _ (List.mem_append_left _ (List.mem_append_left _ (List.mem_append_right _ (List.mem_append_right _ (List.mem_append_right _ (List.mem_append_right _ (List.mem_append_right _ (List.mem_append_right _ (List.mem_append_right _ (List.mem_append_right _ (List.mem_append_right _ (List.mem_append_right _ (List.mem_append_right _ (List.mem_append_right _ (List.mem_append_right _ (List.mem_append_right _ (List.mem_append_right _ (List.mem_append_right _ (List.mem_append_right _ (List.mem_append_left _ h))))))))))))))))))))))))))))))
theorem wa_19 : ∀ w ∈ wsL_law_r19, w ∈ wsL_law := fun _ h => (List.mem_append_left _ (List.mem_append_left _ (List.mem_append_left _ (List.mem_append_left _ (List.mem_append_left _ (List.mem_append_left _ (List.mem_append_left _ (List.mem_append_left _ (List.mem_append_left _ (List.mem_append_left _ (List.mem_append_left _ (List.mem_append_left _ (List.mem_append_right _ (List.mem_append_right _ (List.mem_append_right _ (List.mem_append_right _ (List.mem_append_right _ (List.mem_append_right _ (List.mem_append_right _ (List.mem_append_right _ (List.mem_append_right _ (List.mem_append_right _ (List.mem_append_right _ (List.mem_append_right _ (List.mem_append_right _ (List.mem_append_right _ (List.mem_append_right _ (List.mem_append_right _ (List.mem_append_right _ (List.mem_append_right _ (List.mem_append_left _ h)))))))))))))))))))))))))))))))
theorem wa_20 : ∀ w ∈ wsL_law_r20, w ∈ wsL_law := fun _ h => (List.mem_append_left _ (List.mem_append_left _ (List.mem_append_left _ (List.mem_append_left _ (List.mem_append_left _ (List.mem_append_left _ (List.mem_append_left _ (List.mem_append_left _ (List.mem_append_left _ (List.mem_append_left _ (List.mem_append_left _ (List.mem_append_left _ (List.mem_append_right _ (List.mem_append_right _ (List.mem_append_right _ (List.mem_append_right _ (List.mem_append_right _ (List.mem_append_right _ (List.mem_append_right _ (List.mem_append_right _ (List.mem_append_right _ (List.mem_append_right _ (List.mem_append_right _ (List.mem_append_right _ (List.mem_append_right _ (List.mem_append_right _ (List.mem_append_right _ (List.mem_append_right _ (List.mem_append_right _ (List.mem_append_right _ (List.mem_append_right _ (List.mem_append_left _ h))))))))))))))))))))))))))))))))
theorem wa_21 : ∀ w ∈ wsL_law_r21, w ∈ wsL_law := fun _ h => (List.mem_append_left _ (List.mem_append_left _ (List.mem_append_left _ (List.mem_append_left _ (List.mem_append_left _ (List.mem_append_left _ (List.mem_append_left _ (List.mem_append_left _ (List.mem_append_left _ (List.mem_append_left _ (List.mem_append_left _ (List.mem_append_left _ (List.mem_append_right _ (List.mem_append_right _ (List.mem_append_right _ (List.mem_append_right _ (List.mem_append_right _ (List.mem_append_right _ (List.mem_append_right _ (List.mem_append_right _ (List.mem_append_right _ (List.mem_append_right _ (List.mem_append_right _ (List.mem_append_right _ (List.mem_append_right _ (List.mem_append_right _ (List.mem_append_right _ (List.mem_append_right _ (List.mem_append_right _ (List.mem_append_right _ (List.mem_append_right _ (List.mem_append_right _ (List.mem_append_left _ h)))))))))))))))))))))))))))))))))
theorem wa_22 : ∀ w ∈ wsL_law_r22, w ∈ wsL_law := fun _ h => (List.mem_append_left _ (List.mem_append_left _ (List.mem_append_left _ (List.mem_append_left _ (List.mem_append_left _ (List.mem_append_left _ (List.mem_append_left _ (List.mem_append_left _ (List.mem_append_left _ (List.mem_append_left _ (List.mem_append_left _ (List.mem_append_left _ (List.mem_append_right _ (List.mem_append_right _ (List.mem_append_right _ (List.mem_append_right _ (List.mem_append_right _ (List.mem_append_right _ (List.mem_append_right _ (List.mem_append_right _ (List.mem_append_right _ (List.mem_append_right _ (List.mem_append_right _ (List.mem_append_right _ (List.mem_append_right _ (List.mem_append_right _ (List.mem_append_right _ (List.mem_append_right _ (List.mem_append_right _ (List.mem_append_right _ (List.mem_append_right _ (List.mem_append_right _ (List.mem_append_right _ (List.mem_append_left _ h))))))))))))))))))))))))))))))))))
theorem wa_23 : ∀ w ∈ wsL_law_r23, w ∈ wsL_law := fun _ h => (List.mem_append_left _ (List.mem_append_left _ (List.mem_append_left _ (List.mem_append_left _ (List.mem_append_left _ (List.mem_append_left _ (List.mem_append_left _ (List.mem_append_left _ (List.mem_append_left _ (List.mem_append_left _ (List.mem_append_left _ (List.mem_append_left _ (List.mem_append_right _ (List.mem_append_right _ (List.mem_append_right _ (List.mem_append_right _ (List.mem_append_right _ (List.mem_append_right _ (List.mem_append_right _ (List.mem_append_right _ (List.mem_append_right _ (List.mem_append_right _ (List.mem_append_right _ (List.mem_append_right _ (List.mem_append_right _ (List.mem_append_right _ (List.mem_append_right _ (List.mem_append_right _ (List.mem_append_right _ (List.mem_append_right _ (List.mem_append_right _ (List.mem_append_right _ (List.mem_append_right _ (List.mem_append_right _ (List.mem_append_left _ h)))))))))))))))))))))))))))))))))))
theorem wa_24 : ∀ w ∈ wsL_law_r24, w ∈ wsL_law := fun _ h => (List.mem_append_left _ (List.mem_append_left _ (List.mem_append_left _ (List.mem_append_left _ (List.mem_append_left _ (List.mem_append_left _ (List.mem_append_left _ (List.mem_append_left _ (List.mem_append_left _ (List.mem_append_left _ (List.mem_append_left _ (List.mem_append_left _ (List.mem_append_right _ (List.mem_append_right _ (List.mem_append_right _ (List.mem_append_right _ (List.mem_append_right _ (List.mem_append_right _ (List.mem_append_right _ (List.mem_append_right _ (List.mem_append_right _ (List.mem_append_right _ (List.mem_append_right _ (List.mem_append_right _ (List.mem_append_right _ (List.mem_append_right _ (List.mem_append_right _ (List.mem_append_right _ (List.mem_append_right _ (List.mem_append_right _ (List.mem_append_right _ (List.mem_append_right _ (List.mem_append_right _ (List.mem_append_right _ (List.mem_append_right _ (List.mem_append_left _ h))))))))))))))))))))))))))))))))))))
theorem wa_25 : ∀ w ∈ wsL_law_r25, w ∈ wsL_law := fun _ h => (List.mem_append_left _ (List.mem_append_left _ (List.mem_append_left _ (List.mem_append_left _ (List.mem_append_left _ (List.mem_append_left _ (List.mem_append_left _ (List.mem_append_left _ (List.mem_append_left _ (List.mem_append_left _ (List.mem_append_left _ (List.mem_append_left _ (List.mem_append_right _ (List.mem_append_right _ (List.mem_append_right _ (List.mem_append_right _ (List.mem_append_right _ (List.mem_append_right _ (List.mem_append_right _ (List.mem_append_right _ (List.mem_append_right _ (List.mem_append_right _ (List.mem_append_right _ (List.mem_append_right _ (List.mem_append_right _ (List.mem_append_right _ (List.mem_append_right _ (List.mem_append_right _ (List.mem_append_right _ (List.mem_append_right _ (List.mem_append_right _ (List.mem_append_right _ (List.mem_append_right _ (List.mem_append_right _ (List.mem_append_right _ (List.mem_append_right _ (List.mem_append_left _ h)))))))))))))))))))))))))))))))))))))
theorem wa_26 : ∀ w ∈ wsL_law_r26, w ∈ wsL_law := fun _ h => (List.mem_append_left _ (List.mem_append_left _ (List.mem_append_left _ (List.mem_append_left _ (List.mem_append_left _ (List.mem_append_left _ (List.mem_append_left _ (List.mem_append_left _ (List.mem_append_left _ (List.mem_append_left _ (List.mem_append_left _ (List.mem_append_left _ (List.mem_append_right _ (List.mem_append_right _ (List.mem_append_right _ (List.mem_append_right _ (List.mem_append_right _ (List.mem_append_right _ (List.mem_append_right _ (List.mem_append_right _ (List.mem_append_right _ (List.mem_append_right _ (List.mem_append_right _ (List.mem_append_right _ (List.mem_append_right _ (List.mem_append_right _ (List.mem_append_right _ (List.mem_append_right _ (List.mem_append_right _ (List.mem_append_right _ (List.mem_append_right _ (List.mem_append_right _ (List.mem_append_right _ (List.mem_append_right _ (List.mem_append_right _ (List.mem_append_right _ (List.mem_append_right _ (List.mem_append_left _ h))))))))))))))))))))))))))))))))))))))
theorem wa_27 : ∀ w ∈ wsL_law_r27, w ∈ wsL_law := fun _ h => (List.mem_append_left _ (List.mem_append_left _ (List.mem_append_left _ (List.mem_append_left _ (List.mem_append_left _ (List.mem_append_left _ (List.mem_append_left _ (List.mem_append_left _ (List.mem_append_left _ (List.mem_append_left _ (List.mem_append_left _ (List.mem_append_left _ (List.mem_append_right _ (List.mem_append_right _ (List.mem_append_right _ (List.mem_append_right _ (List.mem_append_right _ (List.mem_append_right _ (List.mem_append_right _ (List.mem_append_right _ (List.mem_append_right _ (List.mem_append_right _ (List.mem_append_right _ (List.mem_append_right _ (List.mem_append_right _ (List.mem_append_right _ (List.mem_append_right _ (List.mem_append_right _ (List.mem_append_right _ (List.mem_append_right _ (List.mem_append_right _ (List.mem_append_right _ (List.mem_append_right _ (List.mem_append_right _ (List.mem_append_right _ (List.mem_append_right _ (List.mem_append_right _ (List.mem_append_right _ (List.mem_append_left _ h)))))))))))))))))))))))))))))))))))))))
theorem wa_28 : ∀ w ∈ wsL_law_r28, w ∈ wsL_law := fun _ h => (List.mem_append_left _ (List.mem_append_left _ (List.mem_append_left _ (List.mem_append_left _ (List.mem_append_left _ (List.mem_append_left _ (List.mem_append_left _ (List.mem_append_left _ (List.mem_append_left _ (List.mem_append_left _ (List.mem_append_left _ (List.mem_append_left _ (List.mem_append_right _ (List.mem_append_right _ (List.mem_append_right _ (List.mem_append_right _ (List.mem_append_right _ (List.mem_append_right _ (List.mem_append_right _ (List.mem_append_right _ (List.mem_append_right _ (List.mem_append_right _ (List.mem_append_right _ (List.mem_append_right _ (List.mem_append_right _ (List.mem_append_right _ (List.mem_append_right _ (List.mem_append_right _ (List.mem_append_right _ (List.mem_append_right _ (List.mem_append_right _ (List.mem_append_right _ (List.mem_append_right _ (List.mem_append_right _ (List.mem_append_right _ (List.mem_append_right _ (List.mem_append_right _ (List.mem_append_right _ (List.mem_append_right _ (List.mem_append_left _ h))))))))))))))))))))))))))))))))))))))))
theorem wa_29 : ∀ w ∈ wsL_law_r29, w ∈ wsL_law := fun _ h => (List.mem_append_left _ (List.mem_append_left _ (List.mem_append_left _ (List.mem_append_left _ (List.mem_append_left _ (List.mem_append_left _ (List.mem_append_left _ (List.mem_append_left _ (List.mem_append_left _ (List.mem_append_left _ (List.mem_append_left _ (List.mem_append_left _ (List.mem_append_right _ (List.mem_append_right _ (List.mem_append_right _ (List.mem_append_right _ (List.mem_append_right _ (List.mem_append_right _ (List.mem_append_right _ (List.mem_append_right _ (List.mem_append_right _ (List.mem_append_right _ (List.mem_append_right _ (List.mem_append_right _ (List.mem_append_right _ (List.mem_append_right _ (List.mem_append_right _ (List.mem_append_right _ (List.mem_append_right _ (List.mem_append_right _ (List.mem_append_right _ (List.mem_append_right _ (List.mem_append_right _ (List.mem_append_right _ (List.mem_append_right _ (List.mem_append_right _ (List.mem_append_right _ (List.mem_append_right _ (List.mem_append_right _ (List.mem_append_right _ (List.mem_append_left _ h)))))))))))))))))))))))))))))))))))))))))
theorem wa_30 : ∀ w ∈ wsL_law_r30, w ∈ wsL_law := fun _ h => (List.mem_append_left _ (List.mem_append_left _ (List.mem_append_left _ (List.mem_append_left _ (List.mem_append_left _ (List.mem_append_left _ (List.mem_append_left _ (List.mem_append_left _ (List.mem_append_left _ (List.mem_append_left _ (List.mem_append_left _ (List.mem_append_left _ (List.mem_append_right _ (List.mem_append_right _ (List.mem_append_right _ (List.mem_append_right _ (List.mem_append_right _ (List.mem_append_right _ (List.mem_append_right _ (List.mem_append_right _ (List.mem_append_right _ (List.mem_append_right _ (List.mem_append_right _ (List.mem_append_right _ (List.mem_append_right _ (List.mem_append_right _ (List.mem_append_right _ (List.mem_append_right _ (List.mem_append_right _ (List.mem_append_right _ (List.mem_append_right _ (List.mem_append_right _ (List.mem_append_right _ (List.mem_append_right _ (List.mem_append_right _ (List.mem_append_right _ (List.mem_append_right _ (List.mem_append_right _ (List.mem_append_right _ (List.mem_append_right _ (List.mem_append_right _ (List.mem_append_left _ h))))))))))))))))))))))))))))))))))))))))))
theorem wa_31 : ∀ w ∈ wsL_law_r31, w ∈ wsL_law := fun _ h => (List.mem_append_left _ (List.mem_append_left _ (List.mem_append_left _ (List.mem_append_left _ (List.mem_append_left _ (List.mem_append_left _ (List.mem_append_left _ (List.mem_append_left _ (List.mem_append_left _ (List.mem_append_left _ (List.mem_append_left _ (List.mem_append_left _ (List.mem_append_right _ (List.mem_append_right _ (List.mem_append_right _ (List.mem_append_right _ (List.mem_append_right _ (List.mem_append_right _ (List.mem_append_right _ (List.mem_append_right _ (List.mem_append_right _ (List.mem_append_right _ (List.mem_append_right _ (List.mem_append_right _ (List.mem_append_right _ (List.mem_append_right _ (List.mem_append_right _ (List.mem_append_right _ (List.mem_append_right _ (List.mem_append_right _ (List.mem_append_right _ (List.mem_append_right _ (List.mem_append_right _ (List.mem_append_right _ (List.mem_append_right _ (List.mem_append_right _ (List.mem_append_right _ (List.mem_append_right _ (List.mem_append_right _ (List.mem_append_right _ (List.mem_append_right _ (List.mem_append_right _ (List.mem_append_left _ h)))))))))))))))))))))))))))))))))))))))))))
theorem wa_32 : ∀ w ∈ wsL_law_r32, w ∈ wsL_law := fun _ h => (List.mem_append_left _ (List.mem_append_left _ (List.mem_append_left _ (List.mem_append_left _ (List.mem_append_left _ (List.mem_append_left _ (List.mem_append_left _ (List.mem_append_left _ (List.mem_append_left _ (List.mem_append_left _ (List.mem_append_left _ (List.mem_append_left _ (List.mem_append_right _ (List.mem_append_right _ (List.mem_append_right _ (List.mem_append_right _ (List.mem_append_right _ (List.mem_append_right _ (List.mem_append_right _ (List.mem_append_right _ (List.mem_append_right _ (List.mem_append_right _ (List.mem_append_right _ (List.mem_append_right _ (List.mem_append_right _ (List.mem_append_right _ (List.mem_append_right _ (List.mem_append_right _ (List.mem_append_right _ (List.mem_append_right _ (List.mem_append_right _ (List.mem_append_right _ (List.mem_append_right _ (List.mem_append_right _ (List.mem_append_right _ (List.mem_append_right _ (List.mem_append_right _ (List.mem_append_right _ (List.mem_append_right _ (List.mem_append_right _ (List.mem_append_right _ (List.mem_append_right _ (List.mem_append_right _ (List.mem_append_left _ h))))))))))))))))))))))))))))))))))))))))))))
theorem wa_33 : ∀ w ∈ wsL_law_r33, w ∈ wsL_law := fun _ h => (List.mem_append_left _ (List.mem_append_left _ (List.mem_append_left _ (List.mem_append_left _ (List.mem_append_left _ (List.mem_append_left _ (List.mem_append_left _ (List.mem_append_left _ (List.mem_append_left _ (List.mem_append_left _ (List.mem_append_left _ (List.mem_append_left _ (List.mem_append_right _ (List.mem_append_right _ (List.mem_append_right _ (List.mem_append_right _ (List.mem_append_right _ (List.mem_append_right _ (List.mem_append_right _ (List.mem_append_right _ (List.mem_append_right _ (List.mem_append_right _ (List.mem_append_right _ (List.mem_append_right _ (List.mem_append_right _ (List.mem_append_right _ (List.mem_append_right _ (List.mem_append_right _ (List.mem_append_right _ (List.mem_append_right _ (List.mem_append_right _ (List.mem_append_right _ (List.mem_append_right _ (List.mem_append_right _ (List.mem_append_right _ (List.mem_append_right _ (List.mem_append_right _ (List.mem_append_right _ (List.mem_append_right _ (List.mem_append_right _ (List.mem_append_right _ (List.mem_append_right _ (List.mem_append_right _ (List.mem_append_right _ (List.mem_append_left _ h)))))))))))))))))))))))))))))))))))))))))))))
theorem wa_34 : ∀ w ∈ wsL_law_r34, w ∈ wsL_law := fun _ h => (List.mem_append_left _ (List.mem_append_left _ (List.mem_append_left _ (List.mem_append_left _ (List.mem_append_left _ (List.mem_append_left _ (List.mem_append_left _ (List.mem_append_left _ (List.mem_append_left _ (List.mem_append_left _ (List.mem_append_left _ (List.mem_append_left _ (List.mem_append_right _ (List.mem_append_right _ (List.mem_append_right _ (List.mem_append_right _ (List.mem_append_right _ (List.mem_append_right _ (List.mem_append_right _ (List.mem_append_right _ (List.mem_append_right _ (List.mem_append_right _ (List.mem_append_right _ (List.mem_append_right _ (List.mem_append_right _ (List.mem_append_right _ (List.mem_append_right _ (List.mem_append_right _ (List.mem_append_right _ (List.mem_append_right _ (List.mem_append_right _ (List.mem_append_right _ (List.mem_append_right _ (List.mem_append_right _ (List.mem_append_right _ (List.mem_append_right _ (List.mem_append_right _ (List.mem_append_right _ (List.mem_append_right _ (List.mem_append_right _ (List.mem_append_right _ (List.mem_append_right _ (List.mem_append_right _ (List.mem_append_right _ (List.mem_append_right _ (List.mem_append_left _ h))))))))))))))))))))))))))))))))))))))))))))))
theorem wa_35 : ∀ w ∈ wsL_law_r35, w ∈ wsL_law := fun _ h => (List.mem_append_left _ (List.mem_append_left _ (List.mem_append_left _ (List.mem_append_left _ (List.mem_append_left _ (List.mem_append_left _ (List.mem_append_left _ (List.mem_append_left _ (List.mem_append_left _ (List.mem_append_left _ (List.mem_append_left _ (List.mem_append_left _ (List.mem_append_right _ (List.mem_append_right _ (List.mem_append_right _ (List.mem_append_right _ (List.mem_append_right _ (List.mem_append_right _ (List.mem_append_right _ (List.mem_append_right _ (List.mem_append_right _ (List.mem_append_right _ (List.mem_append_right _ (List.mem_append_right _ (List.mem_append_right _ (List.mem_append_right _ (List.mem_append_right _ (List.mem_append_right _ (List.mem_append_right _ (List.mem_append_right _ (List.mem_append_right _ (List.mem_append_right _ (List.mem_append_right _ (List.mem_append_right _ (List.mem_append_right _ (List.mem_append_right _ (List.mem_append_right _ (List.mem_append_right _ (List.mem_append_right _ (List.mem_append_right _ (List.mem_append_right _ (List.mem_append_right _ (List.mem_append_right _ (List.mem_append_right _ (List.mem_append_right _ (List.mem_append_right _ (List.mem_append_left _ h)))))))))))))))))))))))))))))))))))))))))))))))
theorem wa_36 : ∀ w ∈ wsL_law_r36, w ∈ wsL_law := fun _ h => (List.mem_append_left _ (List.mem_append_left _ (List.mem_append_left _ (List.mem_append_left _ (List.mem_append_left _ (List.mem_append_left _ (List.mem_append_left _ (List.mem_append_left _ (List.mem_append_left _ (List.mem_append_left _ (List.mem_append_left _ (List.mem_append_left _ (List.mem_append_right _ (List.mem_append_right _ (List.mem_append_right _ (List.mem_append_right _ (List.mem_append_right _ (List.mem_append_right _ (List.mem_append_right _ (List.mem_append_right _ (List.mem_append_right _ (List.mem_append_right _ (List.mem_append_right _ (List.mem_append_right _ (List.mem_append_right _ (List.mem_append_right _ (List.mem_append_right _ (List.mem_append_right _ (List.mem_append_right _ (List.mem_append_right _ (List.mem_append_right _ (List.mem_append_right _ (List.mem_append_right _ (List.mem_append_right _ (List.mem_append_right _ (List.mem_append_right _ (List.mem_append_right _ (List.mem_append_right _ (List.mem_append_right _ (List.mem_append_right _ (List.mem_append_right _ (List.mem_append_right _ (List.mem_append_right _ (List.mem_append_right _ (List.mem_append_right _ (List.mem_append_right _ (List.mem_append_right _ (List.mem_append_left _ h))))))))))))))))))))))))))))))))))))))))))))))))
theorem wa_37 : ∀ w ∈ wsL_law_r37, w ∈ wsL_law := fun _ h => (List.mem_append_left _ (List.mem_append_left _ (List.mem_append_left _ (List.mem_append_left _ (List.mem_append_left _ (List.mem_append_left _ (List.mem_append_left _ (List.mem_append_left _ (List.mem_append_left _ (List.mem_append_left _ (List.mem_append_left _ (List.mem_append_left _ (List.mem_append_right _ (List.mem_append_right _ (List.mem_append_right _ (List.mem_append_right _ (List.mem_append_right _ (List.mem_append_right _ (List.mem_append_right _ (List.mem_append_right _ (List.mem_append_right _ (List.mem_append_right _ (List.mem_append_right _ (List.mem_append_right _ (List.mem_append_right _ (List.mem_append_right _ (List.mem_append_right _ (List.mem_append_right _ (List.mem_append_right _ (List.mem_append_right _ (List.mem_append_right _ (List.mem_append_right _ (List.mem_append_right _ (List.mem_append_right _ (List.mem_append_right _ (List.mem_append_right _ (List.mem_append_right _ (List.mem_append_right _ (List.mem_append_right _ (List.mem_append_right _ (List.mem_append_right _ (List.mem_append_right _ (List.mem_append_right _ (List.mem_append_right _ (List.mem_append_right _ (List.mem_append_right _ (List.mem_append_right _ (List.mem_append_right _ (List.mem_append_left _ h)))))))))))))))))))))))))))))))))))))))))))))))))
theorem wa_38 : ∀ w ∈ wsL_law_r38, w ∈ wsL_law := fun _ h => (List.mem_append_left _ (List.mem_append_left _ (List.mem_append_left _ (List.mem_append_left _ (List.mem_append_left _ (List.mem_append_left _ (List.mem_append_left _ (List.mem_append_left _ (List.mem_append_left _ (List.mem_append_left _ (List.mem_append_left _ (List.mem_append_left _ (List.mem_append_right _ (List.mem_append_right _ (List.mem_append_right _ (List.mem_append_right _ (List.mem_append_right _ (List.mem_append_right _ (List.mem_append_right _ (List.mem_append_right _ (List.mem_append_right _ (List.mem_append_right _ (List.mem_append_right _ (List.mem_append_right _ (List.mem_append_right _ (List.mem_append_right _ (List.mem_append_right _ (List.mem_append_right _ (List.mem_append_right _ (List.mem_append_right _ (List.mem_append_right _ (List.mem_append_right _ (List.mem_append_right _ (List.mem_append_right _ (List.mem_append_right _ (List.mem_append_right _ (List.mem_append_right _ (List.mem_append_right _ (List.mem_append_right _ (List.mem_append_right _ (List.mem_append_right _ (List.mem_append_right _ (List.mem_append_right _ (List.mem_append_right _ (List.mem_append_right _ (List.mem_append_right _ (List.mem_append_right _ (List.mem_append_right _ (List.mem_append_right _ (List.mem_append_left _ h))))))))))))))))))))))))))))))))))))))))))))))))))
theorem wa_39 : ∀ w ∈ wsL_law_r39, w ∈ wsL_law := fun _ h => (List.mem_append_left _ (List.mem_append_left _ (List.mem_append_left _ (List.mem_append_left _ (List.mem_append_left _ (List.mem_append_left _ (List.mem_append_left _ (List.mem_append_left _ (List.mem_append_left _ (List.mem_append_left _ (List.mem_append_left _ (List.mem_append_left _ (List.mem_append_right _ (List.mem_append_right _ (List.mem_append_right _ (List.mem_append_right _ (List.mem_append_right _ (List.mem_append_right _ (List.mem_append_right _ (List.mem_append_right _ (List.mem_append_right _ (List.mem_append_right _ (List.mem_append_right _ (List.mem_append_right _ (List.mem_append_right _ (List.mem_append_right _ (List.mem_append_right _ (List.mem_append_right _ (List.mem_append_right _ (List.mem_append_right _ (List.mem_append_right _ (List.mem_append_right _ (List.mem_append_right _ (List.mem_append_right _ (List.mem_append_right _ (List.mem_append_right _ (List.mem_append_right _ (List.mem_append_right _ (List.mem_append_right _ (List.mem_append_right _ (List.mem_append_right _ (List.mem_append_right _ (List.mem_append_right _ (List.mem_append_right _ (List.mem_append_right _ (List.mem_append_right _ (List.mem_append_right _ (List.mem_append_right _ (List.mem_append_right _ (List.mem_append_right _ (List.mem_append_left _ h)))))))))))))))))))))))))))))))))))))))))))))))))))
theorem wa_40 : ∀ w ∈ wsL_law_r40, w ∈ wsL_law := fun _ h => (List.mem_append_left _ (List.mem_append_left _ (List.mem_append_left _ (List.mem_append_left _ (List.mem_append_left _ (List.mem_append_left _ (List.mem_append_left _ (List.mem_append_left _ (List.mem_append_left _ (List.mem_append_left _ (List.mem_append_left _ (List.mem_append_left _ (List.mem_append_right _ (List.mem_append_right _ (List.mem_append_right _ (List.mem_append_right _ (List.mem_append_right _ (List.mem_append_right _ (List.mem_append_right _ (List.mem_append_right _ (List.mem_append_right _ (List.mem_append_right _ (List.mem_append_right _ (List.mem_append_right _ (List.mem_append_right _ (List.mem_append_right _ (List.mem_append_right _ (List.mem_append_right _ (List.mem_append_right _ (List.mem_append_right _ (List.mem_append_right _ (List.mem_append_right _ (List.mem_append_right _ (List.mem_append_right _ (List.mem_append_right _ (List.mem_append_right _ (List.mem_append_right _ (List.mem_append_right _ (List.mem_append_right _ (List.mem_append_right _ (List.mem_append_right _ (List.mem_append_right _ (List.mem_append_right _ (List.mem_append_right _ (List.mem_append_right _ (List.mem_append_right _ (List.mem_append_right _ (List.mem_append_right _ (List.mem_append_right _ (List.mem_append_right _ (List.mem_append_right _ (List.mem_append_left _ h))))))))))))))))))))))))))))))))))))))))))))))))))))
theorem wa_41 : ∀ w ∈ wsL_law_r41, w ∈ wsL_law := fun _ h => (List.mem_append_left _ (List.mem_append_left _ (List.mem_append_left _ (List.mem_append_left _ (List.mem_append_left _ (List.mem_append_left _ (List.mem_append_left _ (List.mem_append_left _ (List.mem_append_left _ (List.mem_append_left _ (List.mem_append_left _ (List.mem_append_left _ (List.mem_append_right _ (List.mem_append_right _ (List.mem_append_right _ (List.mem_append_right _ (List.mem_append_right _ (List.mem_append_right _ (List.mem_append_right _ (List.mem_append_right _ (List.mem_append_right _ (List.mem_append_right _ (List.mem_append_right _ (List.mem_append_right _ (List.mem_append_right _ (List.mem_append_right _ (List.mem_append_right _ (List.mem_append_right _ (List.mem_append_right _ (List.mem_append_right _ (List.mem_append_right _ (List.mem_append_right _ (List.mem_append_right _ (List.mem_append_right _ (List.mem_append_right _ (List.mem_append_right _ (List.mem_append_right _ (List.mem_append_right _ (List.mem_append_right _ (List.mem_append_right _ (List.mem_append_right _ (List.mem_append_right _ (List.mem_append_right _ (List.mem_append_right _ (List.mem_append_right _ (List.mem_append_right _ (List.mem_append_right _ (List.mem_append_right _ (List.mem_append_right _ (List.mem_append_right _ (List.mem_append_right _ (List.mem_append_right _ (List.mem_append_left _ h)))))))))))))))))))))))))))))))))))))))))))))))))))))
theorem wa_42 : ∀ w ∈ wsL_law_r42, w ∈ wsL_law := fun _ h => (List.mem_append_left _ (List.mem_append_left _ (List.mem_append_left _ (List.mem_append_left _ (List.mem_append_left _ (List.mem_append_left _ (List.mem_append_left _ (List.mem_append_left _ (List.mem_append_left _ (List.mem_append_left _ (List.mem_append_left _ (List.mem_append_left _ (List.mem_append_right _ (List.mem_append_right _ (List.mem_append_right _ (List.mem_append_right _ (List.mem_append_right _ (List.mem_append_right _ (List.mem_append_right _ (List.mem_append_right _ (List.mem_append_right _ (List.mem_append_right _ (List.mem_append_right _ (List.mem_append_right _ (List.mem_append_right _ (List.mem_append_right _ (List.mem_append_right _ (List.mem_append_right _ (List.mem_append_right _ (List.mem_append_right _ (List.mem_append_right _ (List.mem_append_right _ (List.mem_append_right _ (List.mem_append_right _ (List.mem_append_right _ (List.mem_append_right _ (List.mem_append_right _ (List.mem_append_right _ (List.mem_append_right _ (List.mem_append_right _ (List.mem_append_right _ (List.mem_append_right _ (List.mem_append_right _ (List.mem_append_right _ (List.mem_append_right _ (List.mem_append_right _ (List.mem_append_right _ (List.mem_append_right _ (List.mem_append_right _ (List.mem_append_right _ (List.mem_append_right _ (List.mem_append_right _ (List.mem_append_right _ (List.mem_append_left _ h))))))))))))))))))))))))))))))))))))))))))))))))))))))
theorem wa_43 : ∀ w ∈ wsL_law_r43, w ∈ wsL_law := fun _ h => (List.mem_append_left _ (List.mem_append_left _ (List.mem_append_left _ (List.mem_append_left _ (List.mem_append_left _ (List.mem_append_left _ (List.mem_append_left _ (List.mem_append_left _ (List.mem_append_left _ (List.mem_append_left _ (List.mem_append_left _ (List.mem_append_left _ (List.mem_append_right _ (List.mem_append_right _ (List.mem_append_right _ (List.mem_append_right _ (List.mem_append_right _ (List.mem_append_right _ (List.mem_append_right _ (List.mem_append_right _ (List.mem_append_right _ (List.mem_append_right _ (List.mem_append_right _ (List.mem_append_right _ (List.mem_append_right _ (List.mem_append_right _ (List.mem_append_right _ (List.mem_append_right _ (List.mem_append_right _ (List.mem_append_right _ (List.mem_append_right _ (List.mem_append_right _ (List.mem_append_right _ (List.mem_append_right _ (List.mem_append_right _ (List.mem_append_right _ (List.mem_append_right _ (List.mem_append_right _ (List.mem_append_right _ (List.mem_append_right _ (List.mem_append_right _ (List.mem_append_right _ (List.mem_append_right _ (List.mem_append_right _ (List.mem_append_right _ (List.mem_append_right _ (List.mem_append_right _ (List.mem_append_right _ (List.mem_append_right _ (List.mem_append_right _ (List.mem_append_right _ (List.mem_append_right _ (List.mem_append_right _ (List.mem_append_right _ (List.mem_append_left _ h)))))))))))))))))))))))))))))))))))))))))))))))))))))))
theorem wa_44 : ∀ w ∈ wsL_law_r44, w ∈ wsL_law := fun _ h => (List.mem_append_left _ (List.mem_append_left _ (List.mem_append_left _ (List.mem_append_left _ (List.mem_append_left _ (List.mem_append_left _ (List.mem_append_left _ (List.mem_append_left _ (List.mem_append_left _ (List.mem_append_left _ (List.mem_append_left _ (List.mem_append_left _ (List.mem_append_right _ (List.mem_append_right _ (List.mem_append_right _ (List.mem_append_right _ (List.mem_append_right _ (List.mem_append_right _ (List.mem_append_right _ (List.mem_append_right _ (List.mem_append_right _ (List.mem_append_right _ (List.mem_append_right _ (List.mem_append_right _ (List.mem_append_right _ (List.mem_append_right _ (List.mem_append_right _ (List.mem_append_right _ (List.mem_append_right _ (List.mem_append_right _ (List.mem_append_right _ (List.mem_append_right _ (List.mem_append_right _ (List.mem_append_right _ (List.mem_append_right _ (List.mem_append_right _ (List.mem_append_right _ (List.mem_append_right _ (List.mem_append_right _ (List.mem_append_right _ (List.mem_append_right _ (List.mem_append_right _ (List.mem_append_right _ (List.mem_append_right _ (List.mem_append_right _ (List.mem_append_right _ (List.mem_append_right _ (List.mem_append_right _ (List.mem_append_right _ (List.mem_append_right _ (List.mem_append_right _ (List.mem_append_right _ (List.mem_append_right _ (List.mem_append_right _ (List.mem_append_right _ (List.mem_append_left _ h))))))))))))))))))))))))))))))))))))))))))))))))))))))))
theorem wa_45 : ∀ w ∈ wsL_law_r45, w ∈ wsL_law := fun _ h => (List.mem_append_left _ (List.mem_append_left _ (List.mem_append_left _ (List.mem_append_left _ (List.mem_append_left _ (List.mem_append_left _ (List.mem_append_left _ (List.mem_append_left _ (List.mem_append_left _ (List.mem_append_left _ (List.mem_append_left _ (List.mem_append_left _ (List.mem_append_right _ (List.mem_append_right _ (List.mem_append_right _ (List.mem_append_right _ (List.mem_append_right _ (List.mem_append_right _ (List.mem_append_right _ (List.mem_append_right _ (List.mem_append_right _ (List.mem_append_right _ (List.mem_append_right _ (List.mem_append_right _ (List.mem_append_right _ (List.mem_append_right _ (List.mem_append_right _ (List.mem_append_right _ (List.mem_append_right _ (List.mem_append_right _ (List.mem_append_right _ (List.mem_append_right _ (List.mem_append_right _ (List.mem_append_right _ (List.mem_append_right _ (List.mem_append_right _ (List.mem_append_right _ (List.mem_append_right _ (List.mem_append_right _ (List.mem_append_right _ (List.mem_append_right _ (List.mem_append_right _ (List.mem_append_right _ (List.mem_append_right _ (List.mem_append_right _ (List.mem_append_right _ (List.mem_append_right _ (List.mem_append_right _ (List.mem_append_right _ (List.mem_append_right _ (List.mem_append_right _ (List.mem_append_right _ (List.mem_append_right _ (List.mem_append_right _ (List.mem_append_right _ (List.mem_append_right _ (List.mem_append_left _ h)))))))))))))))))))))))))))))))))))))))))))))))))))))))))
theorem wa_46 : ∀ w ∈ wsL_law_r46, w ∈ wsL_law := fun _ h => (List.mem_append_left _ (List.mem_append_left _ (List.mem_append_left _ (List.mem_append_left _ (List.mem_append_left _ (List.mem_append_left _ (List.mem_append_left _ (List.mem_append_left _ (List.mem_append_left _ (List.mem_append_left _ (List.mem_append_left _ (List.mem_append_left _ (List.mem_append_right _ (List.mem_append_right _ (List.mem_append_right _ (List.mem_append_right _ (List.mem_append_right _ (List.mem_append_right _ (List.mem_append_right _ (List.mem_append_right _ (List.mem_append_right _ (List.mem_append_right _ (List.mem_append_right _ (List.mem_append_right _ (List.mem_append_right _ (List.mem_append_right _ (List.mem_append_right _ (List.mem_append_right _ (List.mem_append_right _ (List.mem_append_right _ (List.mem_append_right _ (List.mem_append_right _ (List.mem_append_right _ (List.mem_append_right _ (List.mem_append_right _ (List.mem_append_right _ (List.mem_append_right _ (List.mem_append_right _ (List.mem_append_right _ (List.mem_append_right _ (List.mem_append_right _ (List.mem_append_right _ (List.mem_append_right _ (List.mem_append_right _ (List.mem_append_right _ (List.mem_append_right _ (List.mem_append_right _ (List.mem_append_right _ (List.mem_append_right _ (List.mem_append_right _ (List.mem_append_right _ (List.mem_append_right _ (List.mem_append_right _ (List.mem_append_right _ (List.mem_append_right _ (List.mem_append_right _ (List.mem_append_right _ h)))))))))))))))))))))))))))))))))))))))))))))))))))))))))
theorem iW10 (a : Cond) : ∀ w ∈ wsX100, w ∈ a :: wsL_law := fun _ h => List.mem_cons_of_mem _ (List.mem_append_left _ (List.mem_append_left _ (List.mem_append_left _ (List.mem_append_left _ (List.mem_append_left _ (List.mem_append_left _ (List.mem_append_left _ (List.mem_append_left _ (List.mem_append_left _ (List.mem_append_left _ (List.mem_append_left _ (List.mem_append_right _ h))))))))))))
theorem iW11 (a : Cond) : ∀ w ∈ wsX110, w ∈ a :: wsL_law := fun _ h => List.mem_cons_of_mem _ (List.mem_append_left _ (List.mem_append_left _ (List.mem_append_left _ (List.mem_append_left _ (List.mem_append_left _ (List.mem_append_left _ (List.mem_append_left _ (List.mem_append_left _ (List.mem_append_left _ (List.mem_append_left _ (List.mem_append_right _ h)))))))))))
theorem iW6 (a : Cond) : ∀ w ∈ wsX60, w ∈ a :: wsL_law := fun _ h => List.mem_cons_of_mem _ (List.mem_append_left _ (List.mem_append_left _ (List.mem_append_left _ (List.mem_append_left _ (List.mem_append_left _ (List.mem_append_left _ (List.mem_append_left _ (List.mem_append_left _ (List.mem_append_left _ (List.mem_append_right _ h))))))))))
theorem iW2 (a : Cond) : ∀ w ∈ wsX20, w ∈ a :: wsL_law := fun _ h => List.mem_cons_of_mem _ (List.mem_append_left _ (List.mem_append_left _ (List.mem_append_left _ (List.mem_append_left _ (List.mem_append_left _ (List.mem_append_left _ (List.mem_append_left _ (List.mem_append_left _ (List.mem_append_right _ h)))))))))
theorem iW0 (a : Cond) : ∀ w ∈ wsX00, w ∈ a :: wsL_law := fun _ h => List.mem_cons_of_mem _ (List.mem_append_left _ (List.mem_append_left _ (List.mem_append_left _ (List.mem_append_left _ (List.mem_append_left _ (List.mem_append_left _ (List.mem_append_left _ (List.mem_append_right _ h))))))))
theorem iW4 (a : Cond) : ∀ w ∈ wsX40, w ∈ a :: wsL_law := fun _ h => List.mem_cons_of_mem _ (List.mem_append_left _ (List.mem_append_left _ (List.mem_append_left _ (List.mem_append_left _ (List.mem_append_left _ (List.mem_append_left _ (List.mem_append_right _ h)))))))
theorem iW8 (a : Cond) : ∀ w ∈ wsX80, w ∈ a :: wsL_law := fun _ h => List.mem_cons_of_mem _ (List.mem_append_left _ (List.mem_append_left _ (List.mem_append_left _ (List.mem_append_left _ (List.mem_append_left _ (List.mem_append_right _ h))))))
theorem iW5 (a : Cond) : ∀ w ∈ wsX50, w ∈ a :: wsL_law := fun _ h => List.mem_cons_of_mem _ (List.mem_append_left _ (List.mem_append_left _ (List.mem_append_left _ (List.mem_append_left _ (List.mem_append_right _ h)))))
theorem iW1 (a : Cond) : ∀ w ∈ wsX10, w ∈ a :: wsL_law := fun _ h => List.mem_cons_of_mem _ (List.mem_append_left _ (List.mem_append_left _ (List.mem_append_left _ (List.mem_append_right _ h))))
theorem iW7 (a : Cond) : ∀ w ∈ wsX70, w ∈ a :: wsL_law := fun _ h => List.mem_cons_of_mem _ (List.mem_append_left _ (List.mem_append_left _ (List.mem_append_right _ h)))
theorem iW3 (a : Cond) : ∀ w ∈ wsX30, w ∈ a :: wsL_law := fun _ h => List.mem_cons_of_mem _ (List.mem_append_left _ (List.mem_append_right _ h))
theorem gCall {a b : Cond} (pre : List Cond) (h : ∀ w ∈ b :: pre, w ∈ wsL_law) : GoodIn (a :: wsL_law) (pre ++ b :: wsL_law) := by
  intro w hw
  have hin : w ∈ wsL_law := by
    rcases List.mem_append.mp hw with q | q
    · exact h w (List.mem_cons_of_mem _ q)
    · rcases List.mem_cons.mp q with rfl | q
      · exact h _ List.mem_cons_self
      · exact q
  exact ⟨List.mem_cons_of_mem _ hin, good_of_word (List.all_eq_true.mp WA_good w hin)⟩
abbrev wsX0_init : List Cond := .code yX0_init cX0_init 1 none :: wsL_law
abbrev wsJ6_bitCount_0f7a4 : List Cond := .code yJ6_bitCount_0f7a4 cJ6_bitCount_0f7a4 1 (some .int) :: wsL_law
abbrev wsX0_fewestBites : List Cond := .code yX0_fewestBites cX0_fewestBites 8 (some .int) :: wsL_law
abbrev wsX1_init : List Cond := .code yX1_init cX1_init 1 none :: wsL_law
abbrev wsX1_come : List Cond := .code yX1_come cX1_come 4 none :: wsL_law
abbrev wsX1_become : List Cond := .code yX1_become cX1_become 2 none :: wsL_law
abbrev wsX1_isOf : List Cond := .code yX1_isOf cX1_isOf 2 (some .boolean) :: wsL_law
abbrev wsX1_shapeIn : List Cond := .code yX1_shapeIn cX1_shapeIn 3 (some .int) :: wsL_law
abbrev wsX1_markOf : List Cond := .code yX1_markOf cX1_markOf 5 (some .int) :: wsL_law
abbrev wsX1_canLeave : List Cond := .code yX1_canLeave cX1_canLeave 4 (some .boolean) :: wsL_law
abbrev wsX1_paysFor : List Cond := .code yX1_paysFor cX1_paysFor 4 (some .int) :: wsL_law
abbrev wsX1_likesCell : List Cond := .code yX1_likesCell cX1_likesCell 2 (some .int) :: wsL_law
abbrev wsX1_swallow : List Cond := .code yX1_swallow cX1_swallow 5 none :: wsL_law
abbrev wsX1_giveBack : List Cond := .code yX1_giveBack cX1_giveBack 5 none :: wsL_law
abbrev wsX2_init : List Cond := .code yX2_init cX2_init 1 none :: wsL_law
abbrev wsX3_worthOfCells : List Cond := .code yX3_worthOfCells cX3_worthOfCells 4 (some .int) :: wsL_law
abbrev wsX10_within : List Cond := .code yX10_within cX10_within 3 (some .boolean) :: wsL_law
abbrev wsX7_join : List Cond := .code yX7_join cX7_join 3 (some .int) :: wsL_law
abbrev wsX7_says : List Cond := .code yX7_says cX7_says 9 (some .int) :: wsL_law
abbrev wsX4_said : List Cond := .code yX4_said cX4_said 6 (some .int) :: wsL_law
abbrev wsX4_costOf : List Cond := .code yX4_costOf cX4_costOf 5 (some .int) :: wsL_law
abbrev wsX4_worthOf : List Cond := .code yX4_worthOf cX4_worthOf 7 (some .int) :: wsL_law
abbrev wsX4_leastGain : List Cond := .code yX4_leastGain cX4_leastGain 4 (some .int) :: wsL_law
abbrev wsX4_tellBite : List Cond := .code yX4_tellBite cX4_tellBite 1 (some .int) :: wsL_law
abbrev wsX4_findBest : List Cond := .code yX4_findBest cX4_findBest 7 none :: wsL_law
abbrev wsX2_findTeeth : List Cond := .code yX2_findTeeth cX2_findTeeth 5 (some .int) :: wsL_law
abbrev wsX2_kindsLeaving : List Cond := .code yX2_kindsLeaving cX2_kindsLeaving 6 (some .int) :: wsL_law
abbrev wsX2_moresLeaving : List Cond := .code yX2_moresLeaving cX2_moresLeaving 6 (some .int) :: wsL_law
abbrev wsX2_countJaws : List Cond := .code yX2_countJaws cX2_countJaws 6 (some .int) :: wsL_law
abbrev wsX2_leastJaw : List Cond := .code yX2_leastJaw cX2_leastJaw 5 (some .int) :: wsL_law
abbrev wsX3_init : List Cond := .code yX3_init cX3_init 1 none :: wsL_law
abbrev wsX3_mostOf : List Cond := .code yX3_mostOf cX3_mostOf 1 (some .int) :: wsL_law
abbrev wsX3_come : List Cond := .code yX3_come cX3_come 4 none :: wsL_law
abbrev wsX3_become : List Cond := .code yX3_become cX3_become 2 none :: wsL_law
abbrev wsX3_readPart : List Cond := .code yX3_readPart cX3_readPart 2 (some .int) :: wsL_law
abbrev wsX3_writePart : List Cond := .code yX3_writePart cX3_writePart 3 none :: wsL_law
abbrev wsX4_init : List Cond := .code yX4_init cX4_init 3 none :: wsL_law
abbrev wsX4_become : List Cond := .code yX4_become cX4_become 3 none :: wsL_law
abbrev wsX4_eaterAt : List Cond := .code yX4_eaterAt cX4_eaterAt 2 (some (.object "BiteFirst$Eater")) :: wsL_law
abbrev wsX4_goodAt : List Cond := .code yX4_goodAt cX4_goodAt 2 (some (.object "BiteFirst$Good")) :: wsL_law
abbrev wsX4_addEater : List Cond := .code yX4_addEater cX4_addEater 4 (some .int) :: wsL_law
abbrev wsX4_addGood : List Cond := .code yX4_addGood cX4_addGood 3 (some .int) :: wsL_law
abbrev wsX4_tryBite : List Cond := .code yX4_tryBite cX4_tryBite 7 (some .boolean) :: wsL_law
abbrev wsX4_goodOfBest : List Cond := .code yX4_goodOfBest cX4_goodOfBest 1 (some (.object "BiteFirst$Good")) :: wsL_law
abbrev wsX4_placeOfBest : List Cond := .code yX4_placeOfBest cX4_placeOfBest 1 (some .int) :: wsL_law
abbrev wsX5_init : List Cond := .code yX5_init cX5_init 1 none :: wsL_law
abbrev wsX5_becomeRow : List Cond := .code yX5_becomeRow cX5_becomeRow 4 none :: wsL_law
abbrev wsX5_write : List Cond := .code yX5_write cX5_write 3 none :: wsL_law
abbrev wsX5_add : List Cond := .code yX5_add cX5_add 2 none :: wsL_law
abbrev wsX6_init : List Cond := .code yX6_init cX6_init 1 none :: wsL_law
abbrev wsX6_size : List Cond := .code yX6_size cX6_size 1 (some .int) :: wsL_law
abbrev wsX6_room : List Cond := .code yX6_room cX6_room 1 (some .int) :: wsL_law
abbrev wsX6_add : List Cond := .code yX6_add cX6_add 2 none :: wsL_law
abbrev wsJ0_coder_7d493 : List Cond := .code yJ0_coder_7d493 cJ0_coder_7d493 1 (some .byte) :: wsL_law
abbrev wsJ0_length_8abf5 : List Cond := .code yJ0_length_8abf5 cJ0_length_8abf5 1 (some .int) :: wsL_law
abbrev wsJ0_isLatin1_aae02 : List Cond := .code yJ0_isLatin1_aae02 cJ0_isLatin1_aae02 1 (some .boolean) :: wsL_law
abbrev wsJ3_checkIndex_8e157 : List Cond := .code yJ3_checkIndex_8e157 cJ3_checkIndex_8e157 3 (some .int) :: wsL_law
abbrev wsJ0_checkIndex_df160 : List Cond := .code yJ0_checkIndex_df160 cJ0_checkIndex_df160 2 none :: wsL_law
abbrev wsJ1_charAt_3b067 : List Cond := .code yJ1_charAt_3b067 cJ1_charAt_3b067 2 (some .char) :: wsL_law
abbrev wsJ2_length_9d52b : List Cond := .code yJ2_length_9d52b cJ2_length_9d52b 1 (some .int) :: wsL_law
abbrev wsJ2_checkIndex_2214a : List Cond := .code yJ2_checkIndex_2214a cJ2_checkIndex_2214a 2 none :: wsL_law
abbrev wsJ2_getChar_3b067 : List Cond := .code yJ2_getChar_3b067 cJ2_getChar_3b067 2 (some .char) :: wsL_law
abbrev wsJ2_charAt_3b067 : List Cond := .code yJ2_charAt_3b067 cJ2_charAt_3b067 2 (some .char) :: wsL_law
abbrev wsJ0_charAt_5068e : List Cond := .code yJ0_charAt_5068e cJ0_charAt_5068e 2 (some .char) :: wsL_law
abbrev wsX6_write : List Cond := .code yX6_write cX6_write 3 none :: wsL_law
abbrev wsX6_clear : List Cond := .code yX6_clear cX6_clear 1 none :: wsL_law
abbrev wsX6_isLetter : List Cond := .code yX6_isLetter cX6_isLetter 1 (some .boolean) :: wsL_law
abbrev wsX6_isWord : List Cond := .code yX6_isWord cX6_isWord 3 (some .boolean) :: wsL_law
abbrev wsX6_wordToken : List Cond := .code yX6_wordToken cX6_wordToken 1 (some .int) :: wsL_law
abbrev wsX6_isDigit : List Cond := .code yX6_isDigit cX6_isDigit 1 (some .boolean) :: wsL_law
abbrev wsX6_readNumber : List Cond := .code yX6_readNumber cX6_readNumber 1 none :: wsL_law
abbrev wsX9_rankOf : List Cond := .code yX9_rankOf cX9_rankOf 1 (some .int) :: wsL_law
abbrev wsX9_isSign : List Cond := .code yX9_isSign cX9_isSign 1 (some .boolean) :: wsL_law
abbrev wsX6_advance : List Cond := .code yX6_advance cX6_advance 1 none :: wsL_law
abbrev wsX6_fail : List Cond := .code yX6_fail cX6_fail 1 none :: wsL_law
abbrev wsX6_expect : List Cond := .code yX6_expect cX6_expect 2 none :: wsL_law
abbrev wsX6_emit : List Cond := .code yX6_emit cX6_emit 2 none :: wsL_law
abbrev wsX6_mayOpen : List Cond := .code yX6_mayOpen cX6_mayOpen 2 (some .boolean) :: wsL_law
abbrev wsX6_readOne : List Cond := .code yX6_readOne cX6_readOne 2 none :: wsL_law
abbrev wsX6_readRank : List Cond := .code yX6_readRank cX6_readRank 6 none :: wsL_law
abbrev wsX6_findFault : List Cond := .code yX6_findFault cX6_findFault 1 (some .int) :: wsL_law
abbrev wsX7_init : List Cond := .code yX7_init cX7_init 5 none :: wsL_law
abbrev wsX6_made : List Cond := .code yX6_made cX6_made 3 (some (.object "BiteFirst$Text")) :: wsL_law
abbrev wsX8_init : List Cond := .code yX8_init cX8_init 2 none :: wsL_law
abbrev wsX8_startFrom : List Cond := .code yX8_startFrom cX8_startFrom 2 none :: wsL_law
abbrev wsX8_tryNext : List Cond := .code yX8_tryNext cX8_tryNext 11 none :: wsL_law
abbrev wsX8_tryOrders : List Cond := .code yX8_tryOrders cX8_tryOrders 6 none :: wsL_law
abbrev wsX8_tryDuel : List Cond := .code yX8_tryDuel cX8_tryDuel 8 (some .int) :: wsL_law
abbrev wsX8_tryTurn : List Cond := .code yX8_tryTurn cX8_tryTurn 11 (some .int) :: wsL_law
abbrev wsX8_followDay : List Cond := .code yX8_followDay cX8_followDay 5 (some .int) :: wsL_law
abbrev wsX8_takeTurns : List Cond := .code yX8_takeTurns cX8_takeTurns 7 (some .int) :: wsL_law
abbrev wsX8_drawDay : List Cond := .code yX8_drawDay cX8_drawDay 8 none :: wsL_law
abbrev wsX10_init : List Cond := .code yX10_init cX10_init 3 none :: wsL_law
abbrev wsX10_count : List Cond := .code yX10_count cX10_count 2 (some .int) :: wsL_law
abbrev wsX10_set : List Cond := .code yX10_set cX10_set 3 (some .int) :: wsL_law
abbrev wsX10_isByte : List Cond := .code yX10_isByte cX10_isByte 1 (some .boolean) :: wsL_law
abbrev wsX10_feed : List Cond := .code yX10_feed cX10_feed 7 (some .int) :: wsL_law
abbrev wsX10_text : List Cond := .code yX10_text cX10_text 2 (some .int) :: wsL_law
abbrev wsX10_textAt : List Cond := .code yX10_textAt cX10_textAt 2 (some (.object "BiteFirst$Text")) :: wsL_law
abbrev wsX10_force : List Cond := .code yX10_force cX10_force 4 (some .int) :: wsL_law
abbrev wsX10_asks : List Cond := .code yX10_asks cX10_asks 7 (some .int) :: wsL_law
abbrev wsX10_good : List Cond := .code yX10_good cX10_good 3 (some .int) :: wsL_law
abbrev wsX10_put : List Cond := .code yX10_put cX10_put 6 (some .int) :: wsL_law
abbrev wsX10_part : List Cond := .code yX10_part cX10_part 4 (some .int) :: wsL_law
abbrev wsX10_comeEater : List Cond := .code yX10_comeEater cX10_comeEater 3 (some .int) :: wsL_law
abbrev wsX10_eater : List Cond := .code yX10_eater cX10_eater 3 (some .int) :: wsL_law
abbrev wsX10_told : List Cond := .code yX10_told cX10_told 4 (some .int) :: wsL_law
abbrev wsX10_lend : List Cond := .code yX10_lend cX10_lend 6 (some .int) :: wsL_law
abbrev wsX10_shape : List Cond := .code yX10_shape cX10_shape 5 (some .int) :: wsL_law
abbrev wsX10_isPlace : List Cond := .code yX10_isPlace cX10_isPlace 1 (some .boolean) :: wsL_law
abbrev wsX10_mark : List Cond := .code yX10_mark cX10_mark 8 (some .int) :: wsL_law
abbrev wsX10_bite : List Cond := .code yX10_bite cX10_bite 8 (some .int) :: wsL_law
abbrev wsX10_best : List Cond := .code yX10_best cX10_best 4 (some .int) :: wsL_law
abbrev wsX10_orderly : List Cond := .code yX10_orderly cX10_orderly 2 (some .int) :: wsL_law
abbrev wsX10_duel : List Cond := .code yX10_duel cX10_duel 8 (some .int) :: wsL_law
abbrev wsX10_fewest : List Cond := .code yX10_fewest cX10_fewest 5 (some .int) :: wsL_law
abbrev wsX10_soonest : List Cond := .code yX10_soonest cX10_soonest 8 (some .int) :: wsL_law
abbrev wsX10_hire : List Cond := .code yX10_hire cX10_hire 5 (some .int) :: wsL_law
abbrev wsX10_isMarkOf : List Cond := .code yX10_isMarkOf cX10_isMarkOf 2 (some .boolean) :: wsL_law
abbrev wsX10_whose : List Cond := .code yX10_whose cX10_whose 6 (some .int) :: wsL_law
abbrev wsX10_kinds : List Cond := .code yX10_kinds cX10_kinds 7 (some .int) :: wsL_law
abbrev wsX10_sheetAt : List Cond := .code yX10_sheetAt cX10_sheetAt 2 (some (.object "BiteFirst$Sheet")) :: wsL_law
abbrev wsX10_refusalOfDay : List Cond := .code yX10_refusalOfDay cX10_refusalOfDay 4 (some .int) :: wsL_law
abbrev wsX10_judge : List Cond := .code yX10_judge cX10_judge 3 (some .int) :: wsL_law
abbrev wsX10_ends : List Cond := .code yX10_ends cX10_ends 6 (some .int) :: wsL_law
abbrev wsX10_laws : List Cond := .code yX10_laws cX10_laws 5 (some .int) :: wsL_law
abbrev wsX10_film : List Cond := .code yX10_film cX10_film 4 (some .int) :: wsL_law
abbrev wsX10_drawn : List Cond := .code yX10_drawn cX10_drawn 6 (some .int) :: wsL_law
abbrev wsX10_commonDivisor : List Cond := .code yX10_commonDivisor cX10_commonDivisor 3 (some .int) :: wsL_law
abbrev wsX10_odds : List Cond := .code yX10_odds cX10_odds 11 (some .long) :: wsL_law
abbrev wsX10_image : List Cond := .code yX10_image cX10_image 1 (some .int) :: wsL_law
abbrev wsX10_back : List Cond := .code yX10_back cX10_back 1 (some .int) :: wsL_law
abbrev wsX10_sheet : List Cond := .code yX10_sheet cX10_sheet 5 (some .int) :: wsL_law
abbrev wsX10_cell : List Cond := .code yX10_cell cX10_cell 5 (some .int) :: wsL_law
abbrev wsX10_copy : List Cond := .code yX10_copy cX10_copy 8 (some .int) :: wsL_law
abbrev wsX10_eatersBy : List Cond := .code yX10_eatersBy cX10_eatersBy 9 (some .int) :: wsL_law
abbrev wsX10_taken : List Cond := .code yX10_taken cX10_taken 5 (some .int) :: wsL_law
abbrev wsX11_in : List Cond := .code yX11_in cX11_in 3 (some .boolean) :: wsL_law
abbrev wsX11_wordFrom : List Cond := .code yX11_wordFrom cX11_wordFrom 6 (some .int) :: wsL_law
abbrev wsX11_next : List Cond := .code yX11_next cX11_next 3 none :: wsL_law
abbrev wsX11_puts : List Cond := .code yX11_puts cX11_puts 2 none :: wsL_law
abbrev wsX11_rank : List Cond := .code yX11_rank cX11_rank 1 (some .int) :: wsL_law
abbrev wsX11_unwinds : List Cond := .code yX11_unwinds cX11_unwinds 3 none :: wsL_law
abbrev wsX11_holds : List Cond := .code yX11_holds cX11_holds 2 none :: wsL_law
abbrev wsX11_opensOne : List Cond := .code yX11_opensOne cX11_opensOne 2 (some .boolean) :: wsL_law
abbrev wsX11_signOf : List Cond := .code yX11_signOf cX11_signOf 1 (some .int) :: wsL_law
abbrev wsX11_between : List Cond := .code yX11_between cX11_between 2 (some .boolean) :: wsL_law
abbrev wsX11_eRead : List Cond := .code yX11_eRead cX11_eRead 4 (some .boolean) :: wsL_law
abbrev wsX11_text : List Cond := .code yX11_text cX11_text 3 (some .int) :: wsL_law
abbrev wsX11_init : List Cond := .code yX11_init cX11_init 2 none :: wsL_law
abbrev wsX11_within : List Cond := .code yX11_within cX11_within 3 (some .int) :: wsL_law
abbrev wsX11_ones : List Cond := .code yX11_ones cX11_ones 3 (some .int) :: wsL_law
abbrev wsX11_isEater : List Cond := .code yX11_isEater cX11_isEater 2 (some .boolean) :: wsL_law
abbrev wsX11_isGood : List Cond := .code yX11_isGood cX11_isGood 2 (some .boolean) :: wsL_law
abbrev wsX11_isPlace : List Cond := .code yX11_isPlace cX11_isPlace 1 (some .boolean) :: wsL_law
abbrev wsX11_count : List Cond := .code yX11_count cX11_count 2 (some .int) :: wsL_law
abbrev wsX11_set : List Cond := .code yX11_set cX11_set 3 (some .int) :: wsL_law
abbrev wsX11_isByte : List Cond := .code yX11_isByte cX11_isByte 1 (some .boolean) :: wsL_law
abbrev wsX11_feed : List Cond := .code yX11_feed cX11_feed 8 (some .int) :: wsL_law
abbrev wsX11_two : List Cond := .code yX11_two cX11_two 3 (some .int) :: wsL_law
abbrev wsX11_says : List Cond := .code yX11_says cX11_says 5 (some .int) :: wsL_law
abbrev wsX11_force : List Cond := .code yX11_force cX11_force 3 (some .int) :: wsL_law
abbrev wsX11_leftOf : List Cond := .code yX11_leftOf cX11_leftOf 2 (some .int) :: wsL_law
abbrev wsX11_softOf : List Cond := .code yX11_softOf cX11_softOf 2 (some .int) :: wsL_law
abbrev wsX11_asksOf : List Cond := .code yX11_asksOf cX11_asksOf 6 (some .int) :: wsL_law
abbrev wsX11_asks : List Cond := .code yX11_asks cX11_asks 6 (some .int) :: wsL_law
abbrev wsX11_good : List Cond := .code yX11_good cX11_good 4 (some .int) :: wsL_law
abbrev wsX11_put : List Cond := .code yX11_put cX11_put 5 (some .int) :: wsL_law
abbrev wsX11_part : List Cond := .code yX11_part cX11_part 3 (some .int) :: wsL_law
abbrev wsX11_eater : List Cond := .code yX11_eater cX11_eater 3 (some .int) :: wsL_law
abbrev wsX11_told : List Cond := .code yX11_told cX11_told 3 (some .int) :: wsL_law
abbrev wsX11_lend : List Cond := .code yX11_lend cX11_lend 5 (some .int) :: wsL_law
abbrev wsX11_shapeOf : List Cond := .code yX11_shapeOf cX11_shapeOf 4 (some .int) :: wsL_law
abbrev wsX11_shape : List Cond := .code yX11_shape cX11_shape 3 (some .int) :: wsL_law
abbrev wsX11_markBy : List Cond := .code yX11_markBy cX11_markBy 7 (some .int) :: wsL_law
abbrev wsX11_markOf : List Cond := .code yX11_markOf cX11_markOf 4 (some .int) :: wsL_law
abbrev wsX11_worthAll : List Cond := .code yX11_worthAll cX11_worthAll 5 (some .int) :: wsL_law
abbrev wsX11_costsOf : List Cond := .code yX11_costsOf cX11_costsOf 5 (some .int) :: wsL_law
abbrev wsX11_likesOf : List Cond := .code yX11_likesOf cX11_likesOf 7 (some .int) :: wsL_law
abbrev wsX11_canBe : List Cond := .code yX11_canBe cX11_canBe 5 (some .boolean) :: wsL_law
abbrev wsX11_mark : List Cond := .code yX11_mark cX11_mark 6 (some .int) :: wsL_law
abbrev wsX11_bites : List Cond := .code yX11_bites cX11_bites 7 (some .int) :: wsL_law
abbrev wsX11_bite : List Cond := .code yX11_bite cX11_bite 6 (some .int) :: wsL_law
abbrev wsX11_bestOf : List Cond := .code yX11_bestOf cX11_bestOf 10 (some .int) :: wsL_law
abbrev wsX11_best : List Cond := .code yX11_best cX11_best 4 (some .int) :: wsL_law
abbrev wsX11_keeps : List Cond := .code yX11_keeps cX11_keeps 2 none :: wsL_law
abbrev wsX11_laysBack : List Cond := .code yX11_laysBack cX11_laysBack 2 none :: wsL_law
abbrev wsX11_tells : List Cond := .code yX11_tells cX11_tells 5 (some .boolean) :: wsL_law
abbrev wsX11_gainsByOrder : List Cond := .code yX11_gainsByOrder cX11_gainsByOrder 4 (some .int) :: wsL_law
abbrev wsX11_orderly : List Cond := .code yX11_orderly cX11_orderly 9 (some .int) :: wsL_law
abbrev wsX11_duelOne : List Cond := .code yX11_duelOne cX11_duelOne 7 (some .int) :: wsL_law
abbrev wsX11_duel : List Cond := .code yX11_duel cX11_duel 10 (some .int) :: wsL_law
abbrev wsX11_fewestOf : List Cond := .code yX11_fewestOf cX11_fewestOf 10 (some .int) :: wsL_law
abbrev wsX11_fewest : List Cond := .code yX11_fewest cX11_fewest 3 (some .int) :: wsL_law
abbrev wsX11_soonest : List Cond := .code yX11_soonest cX11_soonest 8 (some .int) :: wsL_law
abbrev wsX11_hire : List Cond := .code yX11_hire cX11_hire 10 (some .int) :: wsL_law
abbrev wsX11_makes : List Cond := .code yX11_makes cX11_makes 5 (some .boolean) :: wsL_law
abbrev wsX11_isMark : List Cond := .code yX11_isMark cX11_isMark 3 (some .boolean) :: wsL_law
abbrev wsX11_whose : List Cond := .code yX11_whose cX11_whose 5 (some .int) :: wsL_law
abbrev wsX11_jaws : List Cond := .code yX11_jaws cX11_jaws 10 (some .int) :: wsL_law
abbrev wsX11_kinds : List Cond := .code yX11_kinds cX11_kinds 9 (some .int) :: wsL_law
abbrev wsX11_sheetWrong : List Cond := .code yX11_sheetWrong cX11_sheetWrong 5 (some .int) :: wsL_law
abbrev wsX11_bitesBy : List Cond := .code yX11_bitesBy cX11_bitesBy 4 (some .int) :: wsL_law
abbrev wsX11_firstWrong : List Cond := .code yX11_firstWrong cX11_firstWrong 3 (some .int) :: wsL_law
abbrev wsX11_judge : List Cond := .code yX11_judge cX11_judge 3 (some .int) :: wsL_law
abbrev wsX11_ends : List Cond := .code yX11_ends cX11_ends 6 (some .int) :: wsL_law
abbrev wsX11_laws : List Cond := .code yX11_laws cX11_laws 6 (some .int) :: wsL_law
abbrev wsX11_film : List Cond := .code yX11_film cX11_film 7 (some .int) :: wsL_law
abbrev wsX11_dayBy : List Cond := .code yX11_dayBy cX11_dayBy 10 none :: wsL_law
abbrev wsX11_drawn : List Cond := .code yX11_drawn cX11_drawn 5 (some .int) :: wsL_law
abbrev wsX11_lowest : List Cond := .code yX11_lowest cX11_lowest 11 (some .long) :: wsL_law
abbrev wsX11_odds : List Cond := .code yX11_odds cX11_odds 10 (some .long) :: wsL_law
abbrev wsX11_image : List Cond := .code yX11_image cX11_image 2 (some .int) :: wsL_law
abbrev wsX11_back : List Cond := .code yX11_back cX11_back 2 (some .int) :: wsL_law
abbrev wsX11_sheet : List Cond := .code yX11_sheet cX11_sheet 5 (some .int) :: wsL_law
abbrev wsX11_cell : List Cond := .code yX11_cell cX11_cell 4 (some .int) :: wsL_law
abbrev wsX11_copy : List Cond := .code yX11_copy cX11_copy 10 (some .int) :: wsL_law
abbrev wsX11_eatersBy : List Cond := .code yX11_eatersBy cX11_eatersBy 9 (some .int) :: wsL_law
abbrev wsX11_isUnder : List Cond := .code yX11_isUnder cX11_isUnder 2 (some .boolean) :: wsL_law
abbrev wsX11_taken : List Cond := .code yX11_taken cX11_taken 3 (some .int) :: wsL_law
abbrev wsJ9_max_7cf53 : List Cond := .code yJ9_max_7cf53 cJ9_max_7cf53 2 (some .int) :: wsL_law
abbrev wsJ9_min_7cf53 : List Cond := .code yJ9_min_7cf53 cJ9_min_7cf53 2 (some .int) :: wsL_law
