/-! ===== BEGIN words of one list among another's, by their places ===== -/
theorem goodIn_r {big : List Cond} (ws : List Cond) (ps : List Nat) (hp : ws = ps.filterMap (fun i => big[i]?)) (h : ws.all goodWord = true) : GoodIn big ws := by
  intro w hw
  have h1 := List.all_eq_true.mp h w hw
  rw [hp] at hw
  obtain ⟨i, -, hi⟩ := List.mem_filterMap.mp hw
  have hm : w ∈ big := by first | exact List.mem_of_getElem? hi | exact List.getElem?_mem hi
  exact ⟨hm, good_of_word h1⟩
theorem goodIn_app {big a b : List Cond} (ha : GoodIn big a) (hb : GoodIn big b) : GoodIn big (a ++ b) := fun w h => (List.mem_append.mp h).elim (ha w) (hb w)
theorem goodIn_ca {big a b : List Cond} {c : Cond} (ha : GoodIn big (c :: a)) (hb : GoodIn big b) : GoodIn big (c :: (a ++ b)) := fun w h => (List.mem_cons.mp h).elim (fun e => ha w (List.mem_cons.mpr (Or.inl e))) (fun h => (List.mem_append.mp h).elim (fun h => ha w (List.mem_cons.mpr (Or.inr h))) (hb w))
theorem goodIn_sub {big ws : List Cond} (hm : ∀ w ∈ ws, w ∈ big) (h : ws.all goodWord = true) : GoodIn big ws := fun w hw => ⟨hm w hw, good_of_word (List.all_eq_true.mp h w hw)⟩
/-! ===== END ===== -/

/-! ===== BEGIN printed: names, fields, word lists, decode rows ===== -/
def RX0 : String := "IntervalSignal$Acts"
def TX0 : u_T := fun k => match k with
  | 0 => ("IntervalSignal$Acts", "over", "[I", true)
  | 1 => ("IntervalSignal$Acts", "steps", "[I", true)
  | 2 => ("IntervalSignal$Acts", "before", "[I", true)
  | _ => ("IntervalSignal$Acts", "size", "I", false)
def tyX0 : Nat → FieldType := fun k => match k with
  | 0 => .array .int
  | 1 => .array .int
  | 2 => .array .int
  | _ => .int
abbrev wsX00 : List Cond := u_ws RX0 TX0 4
theorem nmX0 : ∀ a, a < 4 → ∀ b, b < 4 → a ≠ b → (TX0 a).2.1 ≠ (TX0 b).2.1 := by decide +kernel
theorem tyX0_ok : ∀ k, k < 4 → parseFieldDescriptor (TX0 k).2.2.1 = some (tyX0 k) := by decide +kernel
abbrev cX0_init : ByteArray := prog_2_method_1_code
def yX0_init : MethodName := ⟨RX0, "<init>", "()V"⟩
abbrev cX0_size : ByteArray := prog_2_method_2_code
def yX0_size : MethodName := ⟨RX0, "size", "()I"⟩
abbrev cX0_overStep : ByteArray := prog_2_method_3_code
def yX0_overStep : MethodName := ⟨RX0, "overStep", "(I)I"⟩
abbrev cX0_putOver : ByteArray := prog_2_method_4_code
def yX0_putOver : MethodName := ⟨RX0, "putOver", "(II)V"⟩
abbrev cX0_add : ByteArray := prog_2_method_5_code
def yX0_add : MethodName := ⟨RX0, "add", "(II)V"⟩
abbrev cX0_takeBack : ByteArray := prog_2_method_6_code
def yX0_takeBack : MethodName := ⟨RX0, "takeBack", "()V"⟩
abbrev cX0_clear : ByteArray := prog_2_method_7_code
def yX0_clear : MethodName := ⟨RX0, "clear", "()V"⟩
abbrev cX0_copyFrom : ByteArray := prog_2_method_8_code
def yX0_copyFrom : MethodName := ⟨RX0, "copyFrom", "(LIntervalSignal$Acts;)V"⟩
def RX1 : String := "IntervalSignal$Circle"
def TX1 : u_T := fun k => match k with
  | 0 => ("IntervalSignal$Circle", "stepOfState", "[I", true)
  | 1 => ("IntervalSignal$Circle", "tones", "[I", true)
  | 2 => ("IntervalSignal$Circle", "pip", "[Z", true)
  | 3 => ("IntervalSignal$Circle", "from", "I", false)
  | _ => ("IntervalSignal$Circle", "behind", "I", false)
def tyX1 : Nat → FieldType := fun k => match k with
  | 0 => .array .int
  | 1 => .array .int
  | 2 => .array .boolean
  | 3 => .int
  | _ => .int
abbrev wsX10 : List Cond := u_ws RX1 TX1 5
theorem nmX1 : ∀ a, a < 5 → ∀ b, b < 5 → a ≠ b → (TX1 a).2.1 ≠ (TX1 b).2.1 := by decide +kernel
theorem tyX1_ok : ∀ k, k < 5 → parseFieldDescriptor (TX1 k).2.2.1 = some (tyX1 k) := by decide +kernel
abbrev cX1_init : ByteArray := prog_3_method_1_code
def yX1_init : MethodName := ⟨RX1, "<init>", "()V"⟩
abbrev cX1_from : ByteArray := prog_3_method_2_code
def yX1_from : MethodName := ⟨RX1, "from", "()I"⟩
abbrev cX1_steps : ByteArray := prog_3_method_3_code
def yX1_steps : MethodName := ⟨RX1, "steps", "()I"⟩
abbrev cX1_goRound : ByteArray := prog_3_method_4_code
def yX1_goRound : MethodName := ⟨RX1, "goRound", "(LIntervalSignal$Station;)V"⟩
abbrev cX1_pipsInside : ByteArray := prog_3_method_5_code
def yX1_pipsInside : MethodName := ⟨RX1, "pipsInside", "()I"⟩
abbrev cX1_toneAt : ByteArray := prog_3_method_6_code
def yX1_toneAt : MethodName := ⟨RX1, "toneAt", "(I)I"⟩
def RX2 : String := "IntervalSignal$DrawnNight"
def TX2 : u_T := fun k => match k with
  | 0 => ("IntervalSignal$DrawnNight", "x", "J", false)
  | 1 => ("IntervalSignal$DrawnNight", "tone", "I", false)
  | 2 => ("IntervalSignal$DrawnNight", "lost", "I", false)
  | _ => ("IntervalSignal$DrawnNight", "answer", "I", false)
def tyX2 : Nat → FieldType := fun k => match k with
  | 0 => .long
  | 1 => .int
  | 2 => .int
  | _ => .int
abbrev wsX20 : List Cond := u_ws RX2 TX2 4
theorem nmX2 : ∀ a, a < 4 → ∀ b, b < 4 → a ≠ b → (TX2 a).2.1 ≠ (TX2 b).2.1 := by decide +kernel
theorem tyX2_ok : ∀ k, k < 4 → parseFieldDescriptor (TX2 k).2.2.1 = some (tyX2 k) := by decide +kernel
abbrev cX2_init : ByteArray := prog_4_method_1_code
def yX2_init : MethodName := ⟨RX2, "<init>", "()V"⟩
abbrev cX2_toneAtEnd : ByteArray := prog_4_method_2_code
def yX2_toneAtEnd : MethodName := ⟨RX2, "toneAtEnd", "()I"⟩
abbrev cX2_answersLost : ByteArray := prog_4_method_3_code
def yX2_answersLost : MethodName := ⟨RX2, "answersLost", "()I"⟩
abbrev cX2_answerBehind : ByteArray := prog_4_method_4_code
def yX2_answerBehind : MethodName := ⟨RX2, "answerBehind", "()I"⟩
abbrev cX2_draw : ByteArray := prog_4_method_5_code
def yX2_draw : MethodName := ⟨RX2, "draw", "(LIntervalSignal$Station;II)V"⟩
abbrev cX2_drawAnswer : ByteArray := prog_4_method_6_code
def yX2_drawAnswer : MethodName := ⟨RX2, "drawAnswer", "(LIntervalSignal$Station;I)V"⟩
abbrev cX2_nextDraw : ByteArray := prog_4_method_7_code
def yX2_nextDraw : MethodName := ⟨RX2, "nextDraw", "()I"⟩
def RX3 : String := "IntervalSignal$LawSearch"
def TX3 : u_T := fun k => match k with
  | 0 => ("IntervalSignal$LawSearch", "trial", "LIntervalSignal$Station;", true)
  | 1 => ("IntervalSignal$LawSearch", "night", "LIntervalSignal$Night;", true)
  | 2 => ("IntervalSignal$LawSearch", "tally", "[I", true)
  | 3 => ("IntervalSignal$LawSearch", "found", "I", false)
  | 4 => ("IntervalSignal$LawSearch", "firstFound", "I", false)
  | 5 => ("IntervalSignal$LawSearch", "prettiestLaw", "I", false)
  | 6 => ("IntervalSignal$LawSearch", "mostPips", "I", false)
  | _ => ("IntervalSignal$LawSearch", "withoutPip", "I", false)
def tyX3 : Nat → FieldType := fun k => match k with
  | 0 => .object "IntervalSignal$Station"
  | 1 => .object "IntervalSignal$Night"
  | 2 => .array .int
  | 3 => .int
  | 4 => .int
  | 5 => .int
  | 6 => .int
  | _ => .int
abbrev wsX30 : List Cond := u_ws RX3 TX3 8
theorem nmX3 : ∀ a, a < 8 → ∀ b, b < 8 → a ≠ b → (TX3 a).2.1 ≠ (TX3 b).2.1 := by decide +kernel
theorem tyX3_ok : ∀ k, k < 8 → parseFieldDescriptor (TX3 k).2.2.1 = some (tyX3 k) := by decide +kernel
abbrev cX3_init : ByteArray := prog_5_method_1_code
def yX3_init : MethodName := ⟨RX3, "<init>", "()V"⟩
abbrev cX3_prettiest : ByteArray := prog_5_method_2_code
def yX3_prettiest : MethodName := ⟨RX3, "prettiest", "()I"⟩
abbrev cX3_silentLaws : ByteArray := prog_5_method_3_code
def yX3_silentLaws : MethodName := ⟨RX3, "silentLaws", "()I"⟩
abbrev cX3_howMany : ByteArray := prog_5_method_4_code
def yX3_howMany : MethodName := ⟨RX3, "howMany", "()I"⟩
abbrev cX3_firstFitting : ByteArray := prog_5_method_5_code
def yX3_firstFitting : MethodName := ⟨RX3, "firstFitting", "()I"⟩
abbrev cX3_searchPips : ByteArray := prog_5_method_6_code
def yX3_searchPips : MethodName := ⟨RX3, "searchPips", "(LIntervalSignal$Station;)V"⟩
abbrev cX3_searchFitting : ByteArray := prog_5_method_7_code
def yX3_searchFitting : MethodName := ⟨RX3, "searchFitting", "(LIntervalSignal$Station;LIntervalSignal$Slot;Z)V"⟩
abbrev cX3_stepToAsk : ByteArray := prog_5_method_8_code
def yX3_stepToAsk : MethodName := ⟨RX3, "stepToAsk", "()I"⟩
abbrev cX3_leftAtWorst : ByteArray := prog_5_method_9_code
def yX3_leftAtWorst : MethodName := ⟨RX3, "leftAtWorst", "(I)I"⟩
abbrev cX3_begin : ByteArray := prog_5_method_10_code
def yX3_begin : MethodName := ⟨RX3, "begin", "(LIntervalSignal$Station;)V"⟩
abbrev cX3_notePips : ByteArray := prog_5_method_11_code
def yX3_notePips : MethodName := ⟨RX3, "notePips", "(I)V"⟩
abbrev cX3_noteFitting : ByteArray := prog_5_method_12_code
def yX3_noteFitting : MethodName := ⟨RX3, "noteFitting", "(IZ)V"⟩
abbrev cX3_addToTally : ByteArray := prog_5_method_13_code
def yX3_addToTally : MethodName := ⟨RX3, "addToTally", "()V"⟩
abbrev cX3_fits : ByteArray := prog_5_method_14_code
def yX3_fits : MethodName := ⟨RX3, "fits", "(LIntervalSignal$Slot;)Z"⟩
abbrev cX3_lastStepSeen : ByteArray := prog_5_method_15_code
def yX3_lastStepSeen : MethodName := ⟨RX3, "lastStepSeen", "(LIntervalSignal$Slot;)I"⟩
def RX4 : String := "IntervalSignal$Night"
def TX4 : u_T := fun k => match k with
  | 0 => ("IntervalSignal$Night", "tones", "[I", true)
  | 1 => ("IntervalSignal$Night", "lasts", "[I", true)
  | 2 => ("IntervalSignal$Night", "answers", "[I", true)
  | _ => ("IntervalSignal$Night", "pip", "[Z", true)
def tyX4 : Nat → FieldType := fun k => match k with
  | 0 => .array .int
  | 1 => .array .int
  | 2 => .array .int
  | _ => .array .boolean
abbrev wsX40 : List Cond := u_ws RX4 TX4 4
theorem nmX4 : ∀ a, a < 4 → ∀ b, b < 4 → a ≠ b → (TX4 a).2.1 ≠ (TX4 b).2.1 := by decide +kernel
theorem tyX4_ok : ∀ k, k < 4 → parseFieldDescriptor (TX4 k).2.2.1 = some (tyX4 k) := by decide +kernel
abbrev cX4_init : ByteArray := prog_6_method_1_code
def yX4_init : MethodName := ⟨RX4, "<init>", "()V"⟩
abbrev cX4_hear : ByteArray := prog_6_method_2_code
def yX4_hear : MethodName := ⟨RX4, "hear", "(LIntervalSignal$Station;I)V"⟩
abbrev cX4_heardAt : ByteArray := prog_6_method_3_code
def yX4_heardAt : MethodName := ⟨RX4, "heardAt", "(I)I"⟩
abbrev cX4_lastAhead : ByteArray := prog_6_method_4_code
def yX4_lastAhead : MethodName := ⟨RX4, "lastAhead", "(I)I"⟩
abbrev cX4_answerAhead : ByteArray := prog_6_method_5_code
def yX4_answerAhead : MethodName := ⟨RX4, "answerAhead", "(I)I"⟩
abbrev cX4_isPip : ByteArray := prog_6_method_6_code
def yX4_isPip : MethodName := ⟨RX4, "isPip", "(I)Z"⟩
abbrev cX4_pipsTo : ByteArray := prog_6_method_7_code
def yX4_pipsTo : MethodName := ⟨RX4, "pipsTo", "(I)I"⟩
abbrev cX4_stepOfPip : ByteArray := prog_6_method_8_code
def yX4_stepOfPip : MethodName := ⟨RX4, "stepOfPip", "(I)I"⟩
abbrev cX4_firstStepOf : ByteArray := prog_6_method_9_code
def yX4_firstStepOf : MethodName := ⟨RX4, "firstStepOf", "(I)I"⟩
abbrev cX4_timesHeard : ByteArray := prog_6_method_10_code
def yX4_timesHeard : MethodName := ⟨RX4, "timesHeard", "(II)I"⟩
abbrev cX4_tonesTo : ByteArray := prog_6_method_11_code
def yX4_tonesTo : MethodName := ⟨RX4, "tonesTo", "(I)I"⟩
abbrev cX4_longestHeld : ByteArray := prog_6_method_12_code
def yX4_longestHeld : MethodName := ⟨RX4, "longestHeld", "()I"⟩
abbrev cX4_longestWithoutPip : ByteArray := prog_6_method_13_code
def yX4_longestWithoutPip : MethodName := ⟨RX4, "longestWithoutPip", "()I"⟩
abbrev cX4_pairsThatMove : ByteArray := prog_6_method_14_code
def yX4_pairsThatMove : MethodName := ⟨RX4, "pairsThatMove", "(I)I"⟩
abbrev cX4_greatestLeap : ByteArray := prog_6_method_15_code
def yX4_greatestLeap : MethodName := ⟨RX4, "greatestLeap", "()I"⟩
abbrev cX4_lastStepAlike : ByteArray := prog_6_method_16_code
def yX4_lastStepAlike : MethodName := ⟨RX4, "lastStepAlike", "(I)I"⟩
def RX5 : String := "IntervalSignal$PlaceSearch"
def TX5 : u_T := fun k => match k with
  | 0 => ("IntervalSignal$PlaceSearch", "sentAt", "[I", true)
  | 1 => ("IntervalSignal$PlaceSearch", "tally", "[I", true)
  | 2 => ("IntervalSignal$PlaceSearch", "found", "I", false)
  | 3 => ("IntervalSignal$PlaceSearch", "leastPlace", "I", false)
  | _ => ("IntervalSignal$PlaceSearch", "greatestPlace", "I", false)
def tyX5 : Nat → FieldType := fun k => match k with
  | 0 => .array .int
  | 1 => .array .int
  | 2 => .int
  | 3 => .int
  | _ => .int
abbrev wsX50 : List Cond := u_ws RX5 TX5 5
theorem nmX5 : ∀ a, a < 5 → ∀ b, b < 5 → a ≠ b → (TX5 a).2.1 ≠ (TX5 b).2.1 := by decide +kernel
theorem tyX5_ok : ∀ k, k < 5 → parseFieldDescriptor (TX5 k).2.2.1 = some (tyX5 k) := by decide +kernel
abbrev cX5_init : ByteArray := prog_7_method_1_code
def yX5_init : MethodName := ⟨RX5, "<init>", "()V"⟩
abbrev cX5_howMany : ByteArray := prog_7_method_2_code
def yX5_howMany : MethodName := ⟨RX5, "howMany", "()I"⟩
abbrev cX5_least : ByteArray := prog_7_method_3_code
def yX5_least : MethodName := ⟨RX5, "least", "()I"⟩
abbrev cX5_greatest : ByteArray := prog_7_method_4_code
def yX5_greatest : MethodName := ⟨RX5, "greatest", "()I"⟩
abbrev cX5_searchFitting : ByteArray := prog_7_method_5_code
def yX5_searchFitting : MethodName := ⟨RX5, "searchFitting", "(LIntervalSignal$Station;LIntervalSignal$Slot;)V"⟩
abbrev cX5_whereToSet : ByteArray := prog_7_method_6_code
def yX5_whereToSet : MethodName := ⟨RX5, "whereToSet", "()I"⟩
abbrev cX5_minuteSent : ByteArray := prog_7_method_7_code
def yX5_minuteSent : MethodName := ⟨RX5, "minuteSent", "(LIntervalSignal$Station;LIntervalSignal$Slot;I)I"⟩
abbrev cX5_leftAtWorst : ByteArray := prog_7_method_8_code
def yX5_leftAtWorst : MethodName := ⟨RX5, "leftAtWorst", "(I)I"⟩
abbrev cX5_countMinute : ByteArray := prog_7_method_9_code
def yX5_countMinute : MethodName := ⟨RX5, "countMinute", "(I)I"⟩
def RX6 : String := "IntervalSignal$Reader"
def TX6 : u_T := fun k => match k with
  | 0 => ("IntervalSignal$Reader", "draft", "LIntervalSignal$Station;", true)
  | 1 => ("IntervalSignal$Reader", "kind", "I", false)
  | 2 => ("IntervalSignal$Reader", "start", "I", false)
  | 3 => ("IntervalSignal$Reader", "behind", "I", false)
  | 4 => ("IntervalSignal$Reader", "number", "I", false)
  | 5 => ("IntervalSignal$Reader", "fault", "I", false)
  | _ => ("IntervalSignal$Reader", "faultAt", "I", false)
def tyX6 : Nat → FieldType := fun k => match k with
  | 0 => .object "IntervalSignal$Station"
  | 1 => .int
  | 2 => .int
  | 3 => .int
  | 4 => .int
  | 5 => .int
  | _ => .int
abbrev wsX60 : List Cond := u_ws RX6 TX6 7
theorem nmX6 : ∀ a, a < 7 → ∀ b, b < 7 → a ≠ b → (TX6 a).2.1 ≠ (TX6 b).2.1 := by decide +kernel
theorem tyX6_ok : ∀ k, k < 7 → parseFieldDescriptor (TX6 k).2.2.1 = some (tyX6 k) := by decide +kernel
abbrev cX6_init : ByteArray := prog_8_method_1_code
def yX6_init : MethodName := ⟨RX6, "<init>", "()V"⟩
abbrev cX6_faultKind : ByteArray := prog_8_method_2_code
def yX6_faultKind : MethodName := ⟨RX6, "faultKind", "()I"⟩
abbrev cX6_faultPlace : ByteArray := prog_8_method_3_code
def yX6_faultPlace : MethodName := ⟨RX6, "faultPlace", "()I"⟩
abbrev cX6_draft : ByteArray := prog_8_method_4_code
def yX6_draft : MethodName := ⟨RX6, "draft", "()LIntervalSignal$Station;"⟩
abbrev cX6_read : ByteArray := prog_8_method_5_code
def yX6_read : MethodName := ⟨RX6, "read", "(LIntervalSignal$Tape;)V"⟩
abbrev cX6_readLine : ByteArray := prog_8_method_6_code
def yX6_readLine : MethodName := ⟨RX6, "readLine", "(LIntervalSignal$Tape;)V"⟩
abbrev cX6_readHead : ByteArray := prog_8_method_7_code
def yX6_readHead : MethodName := ⟨RX6, "readHead", "(LIntervalSignal$Tape;)V"⟩
abbrev cX6_readNote : ByteArray := prog_8_method_8_code
def yX6_readNote : MethodName := ⟨RX6, "readNote", "(LIntervalSignal$Tape;)V"⟩
abbrev cX6_readGap : ByteArray := prog_8_method_9_code
def yX6_readGap : MethodName := ⟨RX6, "readGap", "(LIntervalSignal$Tape;)V"⟩
abbrev cX6_readPost : ByteArray := prog_8_method_10_code
def yX6_readPost : MethodName := ⟨RX6, "readPost", "(LIntervalSignal$Tape;)V"⟩
abbrev cX6_takeNumber : ByteArray := prog_8_method_11_code
def yX6_takeNumber : MethodName := ⟨RX6, "takeNumber", "(LIntervalSignal$Tape;II)I"⟩
abbrev cX6_takeWord : ByteArray := prog_8_method_12_code
def yX6_takeWord : MethodName := ⟨RX6, "takeWord", "(LIntervalSignal$Tape;Ljava/lang/String;)V"⟩
abbrev cX6_fail : ByteArray := prog_8_method_13_code
def yX6_fail : MethodName := ⟨RX6, "fail", "(I)V"⟩
abbrev cX6_isWord : ByteArray := prog_8_method_14_code
def yX6_isWord : MethodName := ⟨RX6, "isWord", "(LIntervalSignal$Tape;Ljava/lang/String;)Z"⟩
abbrev cX6_nextToken : ByteArray := prog_8_method_15_code
def yX6_nextToken : MethodName := ⟨RX6, "nextToken", "(LIntervalSignal$Tape;)V"⟩
abbrev cX6_readWord : ByteArray := prog_8_method_16_code
def yX6_readWord : MethodName := ⟨RX6, "readWord", "(LIntervalSignal$Tape;)V"⟩
abbrev cX6_readNumber : ByteArray := prog_8_method_17_code
def yX6_readNumber : MethodName := ⟨RX6, "readNumber", "(LIntervalSignal$Tape;)V"⟩
abbrev cX6_isBlank : ByteArray := prog_8_method_18_code
def yX6_isBlank : MethodName := ⟨RX6, "isBlank", "(I)Z"⟩
abbrev cX6_isLetter : ByteArray := prog_8_method_19_code
def yX6_isLetter : MethodName := ⟨RX6, "isLetter", "(I)Z"⟩
abbrev cX6_isDigit : ByteArray := prog_8_method_20_code
def yX6_isDigit : MethodName := ⟨RX6, "isDigit", "(I)Z"⟩
def RX7 : String := "IntervalSignal$Slot"
def TX7 : u_T := fun k => match k with
  | 0 => ("IntervalSignal$Slot", "numbers", "[J", true)
  | 1 => ("IntervalSignal$Slot", "width", "I", false)
  | 2 => ("IntervalSignal$Slot", "size", "I", false)
  | _ => ("IntervalSignal$Slot", "made", "Z", false)
def tyX7 : Nat → FieldType := fun k => match k with
  | 0 => .array .long
  | 1 => .int
  | 2 => .int
  | _ => .boolean
abbrev wsX70 : List Cond := u_ws RX7 TX7 4
theorem nmX7 : ∀ a, a < 4 → ∀ b, b < 4 → a ≠ b → (TX7 a).2.1 ≠ (TX7 b).2.1 := by decide +kernel
theorem tyX7_ok : ∀ k, k < 4 → parseFieldDescriptor (TX7 k).2.2.1 = some (tyX7 k) := by decide +kernel
abbrev cX7_init : ByteArray := prog_9_method_1_code
def yX7_init : MethodName := ⟨RX7, "<init>", "()V"⟩
abbrev cX7_hasRow : ByteArray := prog_9_method_2_code
def yX7_hasRow : MethodName := ⟨RX7, "hasRow", "()Z"⟩
abbrev cX7_width : ByteArray := prog_9_method_3_code
def yX7_width : MethodName := ⟨RX7, "width", "()I"⟩
abbrev cX7_size : ByteArray := prog_9_method_4_code
def yX7_size : MethodName := ⟨RX7, "size", "()I"⟩
abbrev cX7_make : ByteArray := prog_9_method_5_code
def yX7_make : MethodName := ⟨RX7, "make", "(II)V"⟩
abbrev cX7_at : ByteArray := prog_9_method_6_code
def yX7_at : MethodName := ⟨RX7, "at", "(I)J"⟩
abbrev cX7_put : ByteArray := prog_9_method_7_code
def yX7_put : MethodName := ⟨RX7, "put", "(IJ)V"⟩
abbrev cX7_holds : ByteArray := prog_9_method_8_code
def yX7_holds : MethodName := ⟨RX7, "holds", "(II)Z"⟩
abbrev cX7_copyFrom : ByteArray := prog_9_method_9_code
def yX7_copyFrom : MethodName := ⟨RX7, "copyFrom", "(LIntervalSignal$Slot;III)V"⟩
abbrev cX7_cutToWidth : ByteArray := prog_9_method_10_code
def yX7_cutToWidth : MethodName := ⟨RX7, "cutToWidth", "(J)J"⟩
def RX8 : String := "IntervalSignal$Station"
def TX8 : u_T := fun k => match k with
  | 0 => ("IntervalSignal$Station", "tones", "I", false)
  | 1 => ("IntervalSignal$Station", "a", "I", false)
  | 2 => ("IntervalSignal$Station", "b", "I", false)
  | 3 => ("IntervalSignal$Station", "c", "I", false)
  | 4 => ("IntervalSignal$Station", "d", "I", false)
  | 5 => ("IntervalSignal$Station", "odds", "I", false)
  | 6 => ("IntervalSignal$Station", "lines", "I", false)
  | 7 => ("IntervalSignal$Station", "signs", "[I", true)
  | 8 => ("IntervalSignal$Station", "signCount", "I", false)
  | 9 => ("IntervalSignal$Station", "posts", "[I", true)
  | 10 => ("IntervalSignal$Station", "postCount", "I", false)
  | _ => ("IntervalSignal$Station", "acts", "LIntervalSignal$Acts;", true)
def tyX8 : Nat → FieldType := fun k => match k with
  | 0 => .int
  | 1 => .int
  | 2 => .int
  | 3 => .int
  | 4 => .int
  | 5 => .int
  | 6 => .int
  | 7 => .array .int
  | 8 => .int
  | 9 => .array .int
  | 10 => .int
  | _ => .object "IntervalSignal$Acts"
abbrev wsX80 : List Cond := u_ws RX8 TX8 12
theorem nmX8 : ∀ a, a < 12 → ∀ b, b < 12 → a ≠ b → (TX8 a).2.1 ≠ (TX8 b).2.1 := by decide +kernel
theorem tyX8_ok : ∀ k, k < 12 → parseFieldDescriptor (TX8 k).2.2.1 = some (tyX8 k) := by decide +kernel
abbrev cX8_init : ByteArray := prog_10_method_1_code
def yX8_init : MethodName := ⟨RX8, "<init>", "()V"⟩
abbrev cX8_tones : ByteArray := prog_10_method_2_code
def yX8_tones : MethodName := ⟨RX8, "tones", "()I"⟩
abbrev cX8_a : ByteArray := prog_10_method_3_code
def yX8_a : MethodName := ⟨RX8, "a", "()I"⟩
abbrev cX8_b : ByteArray := prog_10_method_4_code
def yX8_b : MethodName := ⟨RX8, "b", "()I"⟩
abbrev cX8_c : ByteArray := prog_10_method_5_code
def yX8_c : MethodName := ⟨RX8, "c", "()I"⟩
abbrev cX8_d : ByteArray := prog_10_method_6_code
def yX8_d : MethodName := ⟨RX8, "d", "()I"⟩
abbrev cX8_odds : ByteArray := prog_10_method_7_code
def yX8_odds : MethodName := ⟨RX8, "odds", "()I"⟩
abbrev cX8_lines : ByteArray := prog_10_method_8_code
def yX8_lines : MethodName := ⟨RX8, "lines", "()I"⟩
abbrev cX8_signCount : ByteArray := prog_10_method_9_code
def yX8_signCount : MethodName := ⟨RX8, "signCount", "()I"⟩
abbrev cX8_postCount : ByteArray := prog_10_method_10_code
def yX8_postCount : MethodName := ⟨RX8, "postCount", "()I"⟩
abbrev cX8_acts : ByteArray := prog_10_method_11_code
def yX8_acts : MethodName := ⟨RX8, "acts", "()LIntervalSignal$Acts;"⟩
abbrev cX8_clear : ByteArray := prog_10_method_12_code
def yX8_clear : MethodName := ⟨RX8, "clear", "()V"⟩
abbrev cX8_copyFrom : ByteArray := prog_10_method_13_code
def yX8_copyFrom : MethodName := ⟨RX8, "copyFrom", "(LIntervalSignal$Station;)V"⟩
abbrev cX8_setHead : ByteArray := prog_10_method_14_code
def yX8_setHead : MethodName := ⟨RX8, "setHead", "(III)V"⟩
abbrev cX8_setLaw : ByteArray := prog_10_method_15_code
def yX8_setLaw : MethodName := ⟨RX8, "setLaw", "(III)V"⟩
abbrev cX8_setC : ByteArray := prog_10_method_16_code
def yX8_setC : MethodName := ⟨RX8, "setC", "(I)V"⟩
abbrev cX8_addLine : ByteArray := prog_10_method_17_code
def yX8_addLine : MethodName := ⟨RX8, "addLine", "()V"⟩
abbrev cX8_addSign : ByteArray := prog_10_method_18_code
def yX8_addSign : MethodName := ⟨RX8, "addSign", "(I)V"⟩
abbrev cX8_addPost : ByteArray := prog_10_method_19_code
def yX8_addPost : MethodName := ⟨RX8, "addPost", "(I)V"⟩
abbrev cX8_signTold : ByteArray := prog_10_method_20_code
def yX8_signTold : MethodName := ⟨RX8, "signTold", "(I)I"⟩
abbrev cX8_postPlace : ByteArray := prog_10_method_21_code
def yX8_postPlace : MethodName := ⟨RX8, "postPlace", "(I)I"⟩
abbrev cX8_wayToPost : ByteArray := prog_10_method_22_code
def yX8_wayToPost : MethodName := ⟨RX8, "wayToPost", "(II)I"⟩
abbrev cX8_soundsAlikeFrom : ByteArray := prog_10_method_23_code
def yX8_soundsAlikeFrom : MethodName := ⟨RX8, "soundsAlikeFrom", "(II)Z"⟩
abbrev cX8_areParents : ByteArray := prog_10_method_24_code
def yX8_areParents : MethodName := ⟨RX8, "areParents", "(III)Z"⟩
abbrev cX8_signNumber : ByteArray := prog_10_method_25_code
def yX8_signNumber : MethodName := ⟨RX8, "signNumber", "(I)I"⟩
abbrev cX8_isGap : ByteArray := prog_10_method_26_code
def yX8_isGap : MethodName := ⟨RX8, "isGap", "(I)Z"⟩
abbrev cX8_ownTone : ByteArray := prog_10_method_27_code
def yX8_ownTone : MethodName := ⟨RX8, "ownTone", "(III)I"⟩
abbrev cX8_toneHeard : ByteArray := prog_10_method_28_code
def yX8_toneHeard : MethodName := ⟨RX8, "toneHeard", "(III)I"⟩
abbrev cX8_gapsAtRisk : ByteArray := prog_10_method_29_code
def yX8_gapsAtRisk : MethodName := ⟨RX8, "gapsAtRisk", "(I)I"⟩
def RX9 : String := "IntervalSignal$Tape"
def TX9 : u_T := fun k => match k with
  | 0 => ("IntervalSignal$Tape", "bytes", "[B", true)
  | _ => ("IntervalSignal$Tape", "length", "I", false)
def tyX9 : Nat → FieldType := fun k => match k with
  | 0 => .array .byte
  | _ => .int
abbrev wsX90 : List Cond := u_ws RX9 TX9 2
theorem nmX9 : ∀ a, a < 2 → ∀ b, b < 2 → a ≠ b → (TX9 a).2.1 ≠ (TX9 b).2.1 := by decide +kernel
theorem tyX9_ok : ∀ k, k < 2 → parseFieldDescriptor (TX9 k).2.2.1 = some (tyX9 k) := by decide +kernel
abbrev cX9_init : ByteArray := prog_11_method_1_code
def yX9_init : MethodName := ⟨RX9, "<init>", "()V"⟩
abbrev cX9_size : ByteArray := prog_11_method_2_code
def yX9_size : MethodName := ⟨RX9, "size", "()I"⟩
abbrev cX9_add : ByteArray := prog_11_method_3_code
def yX9_add : MethodName := ⟨RX9, "add", "(I)V"⟩
abbrev cX9_cut : ByteArray := prog_11_method_4_code
def yX9_cut : MethodName := ⟨RX9, "cut", "(I)V"⟩
abbrev cX9_byteAt : ByteArray := prog_11_method_5_code
def yX9_byteAt : MethodName := ⟨RX9, "byteAt", "(I)I"⟩
def RX10 : String := "IntervalSignal$Words"
def TX10 : u_T := fun k => match k with
  | 0 => ("IntervalSignal$Words", "spent", "[I", false)
  | 1 => ("IntervalSignal$Words", "spentNext", "[I", false)
  | _ => ("IntervalSignal$Words", "missing", "[I", true)
def tyX10 : Nat → FieldType := fun k => match k with
  | 0 => .array .int
  | 1 => .array .int
  | _ => .array .int
abbrev wsX100 : List Cond := u_ws RX10 TX10 3
theorem nmX10 : ∀ a, a < 3 → ∀ b, b < 3 → a ≠ b → (TX10 a).2.1 ≠ (TX10 b).2.1 := by decide +kernel
theorem tyX10_ok : ∀ k, k < 3 → parseFieldDescriptor (TX10 k).2.2.1 = some (tyX10 k) := by decide +kernel
abbrev cX10_init : ByteArray := prog_12_method_1_code
def yX10_init : MethodName := ⟨RX10, "<init>", "()V"⟩
abbrev cX10_fewestTo : ByteArray := prog_12_method_2_code
def yX10_fewestTo : MethodName := ⟨RX10, "fewestTo", "(LIntervalSignal$Station;IIZ)I"⟩
abbrev cX10_tonesReached : ByteArray := prog_12_method_3_code
def yX10_tonesReached : MethodName := ⟨RX10, "tonesReached", "(LIntervalSignal$Station;I)I"⟩
abbrev cX10_fewestToMend : ByteArray := prog_12_method_4_code
def yX10_fewestToMend : MethodName := ⟨RX10, "fewestToMend", "(LIntervalSignal$Station;LIntervalSignal$Night;II)I"⟩
abbrev cX10_spokenByPlan : ByteArray := prog_12_method_5_code
def yX10_spokenByPlan : MethodName := ⟨RX10, "spokenByPlan", "(LIntervalSignal$Station;III)I"⟩
abbrev cX10_walkTo : ByteArray := prog_12_method_6_code
def yX10_walkTo : MethodName := ⟨RX10, "walkTo", "(LIntervalSignal$Station;IZ)V"⟩
abbrev cX10_start : ByteArray := prog_12_method_7_code
def yX10_start : MethodName := ⟨RX10, "start", "(II)V"⟩
abbrev cX10_walkOver : ByteArray := prog_12_method_8_code
def yX10_walkOver : MethodName := ⟨RX10, "walkOver", "(LIntervalSignal$Station;IZ)V"⟩
abbrev cX10_countMissing : ByteArray := prog_12_method_9_code
def yX10_countMissing : MethodName := ⟨RX10, "countMissing", "(LIntervalSignal$Station;II)V"⟩
abbrev cX10_countMissingAhead : ByteArray := prog_12_method_10_code
def yX10_countMissingAhead : MethodName := ⟨RX10, "countMissingAhead", "(LIntervalSignal$Station;I)V"⟩
abbrev cX10_firstWord : ByteArray := prog_12_method_11_code
def yX10_firstWord : MethodName := ⟨RX10, "firstWord", "(LIntervalSignal$Station;III)I"⟩
abbrev cX10_cheapest : ByteArray := prog_12_method_12_code
def yX10_cheapest : MethodName := ⟨RX10, "cheapest", "([IIIZI)I"⟩
abbrev cX10_ownTone : ByteArray := prog_12_method_13_code
def yX10_ownTone : MethodName := ⟨RX10, "ownTone", "(LIntervalSignal$Station;IZII)I"⟩
abbrev cX10_stateOf : ByteArray := prog_12_method_14_code
def yX10_stateOf : MethodName := ⟨RX10, "stateOf", "(ZII)I"⟩
abbrev cX10_state : ByteArray := prog_12_method_15_code
def yX10_state : MethodName := ⟨RX10, "state", "(II)I"⟩
abbrev cX10_missingAt : ByteArray := prog_12_method_16_code
def yX10_missingAt : MethodName := ⟨RX10, "missingAt", "(I)I"⟩
def RX11 : String := "IntervalSignal"
def TX11 : u_T := fun k => match k with
  | 0 => ("IntervalSignal", "tape", "LIntervalSignal$Tape;", true)
  | 1 => ("IntervalSignal", "reader", "LIntervalSignal$Reader;", true)
  | 2 => ("IntervalSignal", "now", "LIntervalSignal$Station;", true)
  | 3 => ("IntervalSignal", "trial", "LIntervalSignal$Station;", true)
  | 4 => ("IntervalSignal", "images", "[LIntervalSignal$Station;", true)
  | 5 => ("IntervalSignal", "imageKept", "[Z", true)
  | 6 => ("IntervalSignal", "slots", "[LIntervalSignal$Slot;", true)
  | 7 => ("IntervalSignal", "night", "LIntervalSignal$Night;", true)
  | 8 => ("IntervalSignal", "otherNight", "LIntervalSignal$Night;", true)
  | 9 => ("IntervalSignal", "circle", "LIntervalSignal$Circle;", true)
  | 10 => ("IntervalSignal", "words", "LIntervalSignal$Words;", true)
  | 11 => ("IntervalSignal", "lawSearch", "LIntervalSignal$LawSearch;", true)
  | 12 => ("IntervalSignal", "placeSearch", "LIntervalSignal$PlaceSearch;", true)
  | _ => ("IntervalSignal", "drawnNight", "LIntervalSignal$DrawnNight;", true)
def tyX11 : Nat → FieldType := fun k => match k with
  | 0 => .object "IntervalSignal$Tape"
  | 1 => .object "IntervalSignal$Reader"
  | 2 => .object "IntervalSignal$Station"
  | 3 => .object "IntervalSignal$Station"
  | 4 => .array (.object "IntervalSignal$Station")
  | 5 => .array .boolean
  | 6 => .array (.object "IntervalSignal$Slot")
  | 7 => .object "IntervalSignal$Night"
  | 8 => .object "IntervalSignal$Night"
  | 9 => .object "IntervalSignal$Circle"
  | 10 => .object "IntervalSignal$Words"
  | 11 => .object "IntervalSignal$LawSearch"
  | 12 => .object "IntervalSignal$PlaceSearch"
  | _ => .object "IntervalSignal$DrawnNight"
abbrev wsX110 : List Cond := u_ws RX11 TX11 14
theorem nmX11 : ∀ a, a < 14 → ∀ b, b < 14 → a ≠ b → (TX11 a).2.1 ≠ (TX11 b).2.1 := by decide +kernel
theorem tyX11_ok : ∀ k, k < 14 → parseFieldDescriptor (TX11 k).2.2.1 = some (tyX11 k) := by decide +kernel
abbrev cX11_init : ByteArray := prog_1_method_1_code
def yX11_init : MethodName := ⟨RX11, "<init>", "()V"⟩
abbrev cX11_feed : ByteArray := prog_1_method_2_code
def yX11_feed : MethodName := ⟨RX11, "feed", "(IIIII)I"⟩
abbrev cX11_end : ByteArray := prog_1_method_3_code
def yX11_end : MethodName := ⟨RX11, "end", "(I)I"⟩
abbrev cX11_station : ByteArray := prog_1_method_4_code
def yX11_station : MethodName := ⟨RX11, "station", "()I"⟩
abbrev cX11_fault : ByteArray := prog_1_method_5_code
def yX11_fault : MethodName := ⟨RX11, "fault", "(I)I"⟩
abbrev cX11_sign : ByteArray := prog_1_method_6_code
def yX11_sign : MethodName := ⟨RX11, "sign", "(I)I"⟩
abbrev cX11_post : ByteArray := prog_1_method_7_code
def yX11_post : MethodName := ⟨RX11, "post", "(I)I"⟩
abbrev cX11_heard : ByteArray := prog_1_method_8_code
def yX11_heard : MethodName := ⟨RX11, "heard", "(I)I"⟩
abbrev cX11_last : ByteArray := prog_1_method_9_code
def yX11_last : MethodName := ⟨RX11, "last", "(I)I"⟩
abbrev cX11_answer : ByteArray := prog_1_method_10_code
def yX11_answer : MethodName := ⟨RX11, "answer", "(I)I"⟩
abbrev cX11_gaps : ByteArray := prog_1_method_11_code
def yX11_gaps : MethodName := ⟨RX11, "gaps", "(I)I"⟩
abbrev cX11_pips : ByteArray := prog_1_method_12_code
def yX11_pips : MethodName := ⟨RX11, "pips", "(I)I"⟩
abbrev cX11_wed : ByteArray := prog_1_method_13_code
def yX11_wed : MethodName := ⟨RX11, "wed", "()I"⟩
abbrev cX11_first : ByteArray := prog_1_method_14_code
def yX11_first : MethodName := ⟨RX11, "first", "(I)I"⟩
abbrev cX11_often : ByteArray := prog_1_method_15_code
def yX11_often : MethodName := ⟨RX11, "often", "(II)I"⟩
abbrev cX11_all : ByteArray := prog_1_method_16_code
def yX11_all : MethodName := ⟨RX11, "all", "(I)I"⟩
abbrev cX11_most : ByteArray := prog_1_method_17_code
def yX11_most : MethodName := ⟨RX11, "most", "()I"⟩
abbrev cX11_held : ByteArray := prog_1_method_18_code
def yX11_held : MethodName := ⟨RX11, "held", "()I"⟩
abbrev cX11_rises : ByteArray := prog_1_method_19_code
def yX11_rises : MethodName := ⟨RX11, "rises", "()I"⟩
abbrev cX11_unlike : ByteArray := prog_1_method_20_code
def yX11_unlike : MethodName := ⟨RX11, "unlike", "(I)I"⟩
abbrev cX11_falls : ByteArray := prog_1_method_21_code
def yX11_falls : MethodName := ⟨RX11, "falls", "()I"⟩
abbrev cX11_leap : ByteArray := prog_1_method_22_code
def yX11_leap : MethodName := ⟨RX11, "leap", "()I"⟩
abbrev cX11_when : ByteArray := prog_1_method_23_code
def yX11_when : MethodName := ⟨RX11, "when", "(I)I"⟩
abbrev cX11_echo : ByteArray := prog_1_method_24_code
def yX11_echo : MethodName := ⟨RX11, "echo", "(I)I"⟩
abbrev cX11_cool : ByteArray := prog_1_method_25_code
def yX11_cool : MethodName := ⟨RX11, "cool", "()I"⟩
abbrev cX11_clock : ByteArray := prog_1_method_26_code
def yX11_clock : MethodName := ⟨RX11, "clock", "(II)I"⟩
abbrev cX11_shift : ByteArray := prog_1_method_27_code
def yX11_shift : MethodName := ⟨RX11, "shift", "(II)I"⟩
abbrev cX11_heals : ByteArray := prog_1_method_28_code
def yX11_heals : MethodName := ⟨RX11, "heals", "(II)I"⟩
abbrev cX11_worst : ByteArray := prog_1_method_29_code
def yX11_worst : MethodName := ⟨RX11, "worst", "(I)I"⟩
abbrev cX11_sooner : ByteArray := prog_1_method_30_code
def yX11_sooner : MethodName := ⟨RX11, "sooner", "(II)I"⟩
abbrev cX11_pretty : ByteArray := prog_1_method_31_code
def yX11_pretty : MethodName := ⟨RX11, "pretty", "()I"⟩
abbrev cX11_silent : ByteArray := prog_1_method_32_code
def yX11_silent : MethodName := ⟨RX11, "silent", "()I"⟩
abbrev cX11_tuned : ByteArray := prog_1_method_33_code
def yX11_tuned : MethodName := ⟨RX11, "tuned", "()I"⟩
abbrev cX11_settles : ByteArray := prog_1_method_34_code
def yX11_settles : MethodName := ⟨RX11, "settles", "()I"⟩
abbrev cX11_round : ByteArray := prog_1_method_35_code
def yX11_round : MethodName := ⟨RX11, "round", "()I"⟩
abbrev cX11_births : ByteArray := prog_1_method_36_code
def yX11_births : MethodName := ⟨RX11, "births", "()I"⟩
abbrev cX11_far : ByteArray := prog_1_method_37_code
def yX11_far : MethodName := ⟨RX11, "far", "(I)I"⟩
abbrev cX11_reach : ByteArray := prog_1_method_38_code
def yX11_reach : MethodName := ⟨RX11, "reach", "(I)I"⟩
abbrev cX11_needs : ByteArray := prog_1_method_39_code
def yX11_needs : MethodName := ⟨RX11, "needs", "(II)I"⟩
abbrev cX11_plan : ByteArray := prog_1_method_40_code
def yX11_plan : MethodName := ⟨RX11, "plan", "(III)I"⟩
abbrev cX11_quietly : ByteArray := prog_1_method_41_code
def yX11_quietly : MethodName := ⟨RX11, "quietly", "(II)I"⟩
abbrev cX11_mend : ByteArray := prog_1_method_42_code
def yX11_mend : MethodName := ⟨RX11, "mend", "(II)I"⟩
abbrev cX11_laws : ByteArray := prog_1_method_43_code
def yX11_laws : MethodName := ⟨RX11, "laws", "(I)I"⟩
abbrev cX11_law : ByteArray := prog_1_method_44_code
def yX11_law : MethodName := ⟨RX11, "law", "(I)I"⟩
abbrev cX11_ask : ByteArray := prog_1_method_45_code
def yX11_ask : MethodName := ⟨RX11, "ask", "(I)I"⟩
abbrev cX11_leaves : ByteArray := prog_1_method_46_code
def yX11_leaves : MethodName := ⟨RX11, "leaves", "(I)I"⟩
abbrev cX11_spread : ByteArray := prog_1_method_47_code
def yX11_spread : MethodName := ⟨RX11, "spread", "(I)I"⟩
abbrev cX11_blind : ByteArray := prog_1_method_48_code
def yX11_blind : MethodName := ⟨RX11, "blind", "()I"⟩
abbrev cX11_places : ByteArray := prog_1_method_49_code
def yX11_places : MethodName := ⟨RX11, "places", "(I)I"⟩
abbrev cX11_place : ByteArray := prog_1_method_50_code
def yX11_place : MethodName := ⟨RX11, "place", "(I)I"⟩
abbrev cX11_farther : ByteArray := prog_1_method_51_code
def yX11_farther : MethodName := ⟨RX11, "farther", "(I)I"⟩
abbrev cX11_set : ByteArray := prog_1_method_52_code
def yX11_set : MethodName := ⟨RX11, "set", "(I)I"⟩
abbrev cX11_parents : ByteArray := prog_1_method_53_code
def yX11_parents : MethodName := ⟨RX11, "parents", "(I)I"⟩
abbrev cX11_parent : ByteArray := prog_1_method_54_code
def yX11_parent : MethodName := ⟨RX11, "parent", "(I)I"⟩
abbrev cX11_rests : ByteArray := prog_1_method_55_code
def yX11_rests : MethodName := ⟨RX11, "rests", "()I"⟩
abbrev cX11_sounds : ByteArray := prog_1_method_56_code
def yX11_sounds : MethodName := ⟨RX11, "sounds", "(II)I"⟩
abbrev cX11_best : ByteArray := prog_1_method_57_code
def yX11_best : MethodName := ⟨RX11, "best", "(I)I"⟩
abbrev cX11_chance : ByteArray := prog_1_method_58_code
def yX11_chance : MethodName := ⟨RX11, "chance", "(II)J"⟩
abbrev cX11_sure : ByteArray := prog_1_method_59_code
def yX11_sure : MethodName := ⟨RX11, "sure", "(I)I"⟩
abbrev cX11_drawn : ByteArray := prog_1_method_60_code
def yX11_drawn : MethodName := ⟨RX11, "drawn", "(III)I"⟩
abbrev cX11_luck : ByteArray := prog_1_method_61_code
def yX11_luck : MethodName := ⟨RX11, "luck", "(IIII)I"⟩
abbrev cX11_speak : ByteArray := prog_1_method_62_code
def yX11_speak : MethodName := ⟨RX11, "speak", "(II)I"⟩
abbrev cX11_spoken : ByteArray := prog_1_method_63_code
def yX11_spoken : MethodName := ⟨RX11, "spoken", "(I)I"⟩
abbrev cX11_undo : ByteArray := prog_1_method_64_code
def yX11_undo : MethodName := ⟨RX11, "undo", "()I"⟩
abbrev cX11_anew : ByteArray := prog_1_method_65_code
def yX11_anew : MethodName := ⟨RX11, "anew", "()I"⟩
abbrev cX11_tune : ByteArray := prog_1_method_66_code
def yX11_tune : MethodName := ⟨RX11, "tune", "(I)I"⟩
abbrev cX11_count : ByteArray := prog_1_method_67_code
def yX11_count : MethodName := ⟨RX11, "count", "(I)I"⟩
abbrev cX11_image : ByteArray := prog_1_method_68_code
def yX11_image : MethodName := ⟨RX11, "image", "(I)I"⟩
abbrev cX11_back : ByteArray := prog_1_method_69_code
def yX11_back : MethodName := ⟨RX11, "back", "(I)I"⟩
abbrev cX11_row : ByteArray := prog_1_method_70_code
def yX11_row : MethodName := ⟨RX11, "row", "(III)I"⟩
abbrev cX11_write : ByteArray := prog_1_method_71_code
def yX11_write : MethodName := ⟨RX11, "write", "(IIJ)I"⟩
abbrev cX11_paste : ByteArray := prog_1_method_72_code
def yX11_paste : MethodName := ⟨RX11, "paste", "(IIIII)I"⟩
abbrev cX11_outside : ByteArray := prog_1_method_73_code
def yX11_outside : MethodName := ⟨RX11, "outside", "(JJJ)Z"⟩
abbrev cX11_noStation : ByteArray := prog_1_method_74_code
def yX11_noStation : MethodName := ⟨RX11, "noStation", "()Z"⟩
abbrev cX11_noStep : ByteArray := prog_1_method_75_code
def yX11_noStep : MethodName := ⟨RX11, "noStep", "(I)Z"⟩
abbrev cX11_noPlanStep : ByteArray := prog_1_method_76_code
def yX11_noPlanStep : MethodName := ⟨RX11, "noPlanStep", "(I)Z"⟩
abbrev cX11_noTone : ByteArray := prog_1_method_77_code
def yX11_noTone : MethodName := ⟨RX11, "noTone", "(I)Z"⟩
abbrev cX11_noSlot : ByteArray := prog_1_method_78_code
def yX11_noSlot : MethodName := ⟨RX11, "noSlot", "(I)Z"⟩
abbrev cX11_lawTrouble : ByteArray := prog_1_method_79_code
def yX11_lawTrouble : MethodName := ⟨RX11, "lawTrouble", "(I)I"⟩
abbrev cX11_placeTrouble : ByteArray := prog_1_method_80_code
def yX11_placeTrouble : MethodName := ⟨RX11, "placeTrouble", "(I)I"⟩
abbrev cX11_pairTrouble : ByteArray := prog_1_method_81_code
def yX11_pairTrouble : MethodName := ⟨RX11, "pairTrouble", "(III)I"⟩
abbrev cX11_tonight : ByteArray := prog_1_method_82_code
def yX11_tonight : MethodName := ⟨RX11, "tonight", "()LIntervalSignal$Night;"⟩
abbrev cX11_nightWith : ByteArray := prog_1_method_83_code
def yX11_nightWith : MethodName := ⟨RX11, "nightWith", "(II)LIntervalSignal$Night;"⟩
abbrev cX11_unlikeSteps : ByteArray := prog_1_method_84_code
def yX11_unlikeSteps : MethodName := ⟨RX11, "unlikeSteps", "(II)I"⟩
abbrev cX11_slotsWithRow : ByteArray := prog_1_method_85_code
def yX11_slotsWithRow : MethodName := ⟨RX11, "slotsWithRow", "()I"⟩
abbrev cX11_reward : ByteArray := prog_1_method_86_code
def yX11_reward : MethodName := ⟨RX11, "reward", "(II)I"⟩
abbrev cX11_noneBetter : ByteArray := prog_1_method_87_code
def yX11_noneBetter : MethodName := ⟨RX11, "noneBetter", "(II)Z"⟩
abbrev cX11_commonDivisor : ByteArray := prog_1_method_88_code
def yX11_commonDivisor : MethodName := ⟨RX11, "commonDivisor", "(II)I"⟩
abbrev cX11_power : ByteArray := prog_1_method_89_code
def yX11_power : MethodName := ⟨RX11, "power", "(II)J"⟩
abbrev cX11_chanceIsAtLeast : ByteArray := prog_1_method_90_code
def yX11_chanceIsAtLeast : MethodName := ⟨RX11, "chanceIsAtLeast", "(II)Z"⟩
def RX12 : String := "IntervalSignalModel"
def TX12 : u_T := fun k => match k with
  | 0 => ("IntervalSignalModel", "thrown", "I", false)
  | 1 => ("IntervalSignalModel", "world", "[I", true)
  | 2 => ("IntervalSignalModel", "images", "[I", true)
  | 3 => ("IntervalSignalModel", "hasImage", "[Z", true)
  | 4 => ("IntervalSignalModel", "tape", "[B", true)
  | 5 => ("IntervalSignalModel", "taped", "I", false)
  | 6 => ("IntervalSignalModel", "five", "[I", true)
  | 7 => ("IntervalSignalModel", "size", "I", false)
  | 8 => ("IntervalSignalModel", "at", "I", false)
  | 9 => ("IntervalSignalModel", "from", "I", false)
  | 10 => ("IntervalSignalModel", "token", "I", false)
  | 11 => ("IntervalSignalModel", "value", "I", false)
  | 12 => ("IntervalSignalModel", "faultKind", "I", false)
  | 13 => ("IntervalSignalModel", "faultPlace", "I", false)
  | 14 => ("IntervalSignalModel", "fresh", "[I", true)
  | 15 => ("IntervalSignalModel", "spokenAt", "[I", true)
  | 16 => ("IntervalSignalModel", "heardAt", "[I", true)
  | 17 => ("IntervalSignalModel", "lastAt", "[I", true)
  | 18 => ("IntervalSignalModel", "answerAt", "[I", true)
  | 19 => ("IntervalSignalModel", "lawA", "I", false)
  | 20 => ("IntervalSignalModel", "lawB", "I", false)
  | 21 => ("IntervalSignalModel", "lawC", "I", false)
  | 22 => ("IntervalSignalModel", "drawX", "J", false)
  | 23 => ("IntervalSignalModel", "isDrawn", "Z", false)
  | 24 => ("IntervalSignalModel", "lostMany", "I", false)
  | 25 => ("IntervalSignalModel", "heardNow", "[I", true)
  | 26 => ("IntervalSignalModel", "seenAt", "[I", true)
  | 27 => ("IntervalSignalModel", "roundFrom", "I", false)
  | 28 => ("IntervalSignalModel", "roundTo", "I", false)
  | 29 => ("IntervalSignalModel", "goLast", "I", false)
  | 30 => ("IntervalSignalModel", "goAnswer", "I", false)
  | 31 => ("IntervalSignalModel", "goHeard", "I", false)
  | 32 => ("IntervalSignalModel", "fewest", "[I", true)
  | 33 => ("IntervalSignalModel", "costNow", "[I", true)
  | 34 => ("IntervalSignalModel", "costThen", "[I", true)
  | 35 => ("IntervalSignalModel", "lawsOf", "[I", true)
  | 36 => ("IntervalSignalModel", "heardBy", "[I", true)
  | 37 => ("IntervalSignalModel", "lawMany", "I", false)
  | 38 => ("IntervalSignalModel", "askWorst", "I", false)
  | 39 => ("IntervalSignalModel", "placesOf", "[I", true)
  | 40 => ("IntervalSignalModel", "sentIn", "[I", true)
  | 41 => ("IntervalSignalModel", "placeMany", "I", false)
  | 42 => ("IntervalSignalModel", "parentFirst", "I", false)
  | 43 => ("IntervalSignalModel", "lostBy", "[I", true)
  | 44 => ("IntervalSignalModel", "many", "[I", true)
  | 45 => ("IntervalSignalModel", "width", "[I", true)
  | 46 => ("IntervalSignalModel", "numbers", "[J", true)
  | _ => ("IntervalSignalModel", "moving", "[J", true)
def tyX12 : Nat → FieldType := fun k => match k with
  | 0 => .int
  | 1 => .array .int
  | 2 => .array .int
  | 3 => .array .boolean
  | 4 => .array .byte
  | 5 => .int
  | 6 => .array .int
  | 7 => .int
  | 8 => .int
  | 9 => .int
  | 10 => .int
  | 11 => .int
  | 12 => .int
  | 13 => .int
  | 14 => .array .int
  | 15 => .array .int
  | 16 => .array .int
  | 17 => .array .int
  | 18 => .array .int
  | 19 => .int
  | 20 => .int
  | 21 => .int
  | 22 => .long
  | 23 => .boolean
  | 24 => .int
  | 25 => .array .int
  | 26 => .array .int
  | 27 => .int
  | 28 => .int
  | 29 => .int
  | 30 => .int
  | 31 => .int
  | 32 => .array .int
  | 33 => .array .int
  | 34 => .array .int
  | 35 => .array .int
  | 36 => .array .int
  | 37 => .int
  | 38 => .int
  | 39 => .array .int
  | 40 => .array .int
  | 41 => .int
  | 42 => .int
  | 43 => .array .int
  | 44 => .array .int
  | 45 => .array .int
  | 46 => .array .long
  | _ => .array .long
abbrev wsX120 : List Cond := u_ws RX12 TX12 48
theorem nmX12 : ∀ a, a < 48 → ∀ b, b < 48 → a ≠ b → (TX12 a).2.1 ≠ (TX12 b).2.1 := by decide +kernel
theorem tyX12_ok : ∀ k, k < 48 → parseFieldDescriptor (TX12 k).2.2.1 = some (tyX12 k) := by decide +kernel
abbrev cX12_init : ByteArray := prog_14_method_1_code
def yX12_init : MethodName := ⟨RX12, "<init>", "()V"⟩
abbrev cX12_in : ByteArray := prog_14_method_3_code
def yX12_in : MethodName := ⟨RX12, "in", "(JJJ)Z"⟩
abbrev cX12_bits : ByteArray := prog_14_method_4_code
def yX12_bits : MethodName := ⟨RX12, "bits", "(I)I"⟩
abbrev cX12_image : ByteArray := prog_14_method_5_code
def yX12_image : MethodName := ⟨RX12, "image", "(I)I"⟩
abbrev cX12_back : ByteArray := prog_14_method_6_code
def yX12_back : MethodName := ⟨RX12, "back", "(I)I"⟩
abbrev cX12_isStation : ByteArray := prog_14_method_7_code
def yX12_isStation : MethodName := ⟨RX12, "isStation", "()Z"⟩
abbrev cX12_isTone : ByteArray := prog_14_method_8_code
def yX12_isTone : MethodName := ⟨RX12, "isTone", "(J)Z"⟩
abbrev cX12_isStep : ByteArray := prog_14_method_9_code
def yX12_isStep : MethodName := ⟨RX12, "isStep", "(J)Z"⟩
abbrev cX12_hasSigns : ByteArray := prog_14_method_10_code
def yX12_hasSigns : MethodName := ⟨RX12, "hasSigns", "()Z"⟩
abbrev cX12_signAt : ByteArray := prog_14_method_11_code
def yX12_signAt : MethodName := ⟨RX12, "signAt", "(I)I"⟩
abbrev cX12_isGap : ByteArray := prog_14_method_12_code
def yX12_isGap : MethodName := ⟨RX12, "isGap", "(I)Z"⟩
abbrev cX12_feed : ByteArray := prog_14_method_13_code
def yX12_feed : MethodName := ⟨RX12, "feed", "(IIIII)I"⟩
abbrev cX12_end : ByteArray := prog_14_method_14_code
def yX12_end : MethodName := ⟨RX12, "end", "(I)I"⟩
abbrev cX12_see : ByteArray := prog_14_method_15_code
def yX12_see : MethodName := ⟨RX12, "see", "(I)I"⟩
abbrev cX12_advance : ByteArray := prog_14_method_16_code
def yX12_advance : MethodName := ⟨RX12, "advance", "()V"⟩
abbrev cX12_good : ByteArray := prog_14_method_17_code
def yX12_good : MethodName := ⟨RX12, "good", "()Z"⟩
abbrev cX12_errs : ByteArray := prog_14_method_18_code
def yX12_errs : MethodName := ⟨RX12, "errs", "(I)V"⟩
abbrev cX12_is : ByteArray := prog_14_method_19_code
def yX12_is : MethodName := ⟨RX12, "is", "(Ljava/lang/String;)Z"⟩
abbrev cX12_takes : ByteArray := prog_14_method_20_code
def yX12_takes : MethodName := ⟨RX12, "takes", "(Ljava/lang/String;)Z"⟩
abbrev cX12_needs : ByteArray := prog_14_method_21_code
def yX12_needs : MethodName := ⟨RX12, "needs", "(Ljava/lang/String;)V"⟩
abbrev cX12_number : ByteArray := prog_14_method_22_code
def yX12_number : MethodName := ⟨RX12, "number", "(II)I"⟩
abbrev cX12_told : ByteArray := prog_14_method_23_code
def yX12_told : MethodName := ⟨RX12, "told", "(Ljava/lang/String;II)I"⟩
abbrev cX12_fault : ByteArray := prog_14_method_24_code
def yX12_fault : MethodName := ⟨RX12, "fault", "(I)I"⟩
abbrev cX12_readFirst : ByteArray := prog_14_method_25_code
def yX12_readFirst : MethodName := ⟨RX12, "readFirst", "()V"⟩
abbrev cX12_readNext : ByteArray := prog_14_method_26_code
def yX12_readNext : MethodName := ⟨RX12, "readNext", "()V"⟩
abbrev cX12_readLine : ByteArray := prog_14_method_27_code
def yX12_readLine : MethodName := ⟨RX12, "readLine", "()V"⟩
abbrev cX12_station : ByteArray := prog_14_method_28_code
def yX12_station : MethodName := ⟨RX12, "station", "()I"⟩
abbrev cX12_sign : ByteArray := prog_14_method_29_code
def yX12_sign : MethodName := ⟨RX12, "sign", "(I)I"⟩
abbrev cX12_post : ByteArray := prog_14_method_30_code
def yX12_post : MethodName := ⟨RX12, "post", "(I)I"⟩
abbrev cX12_silent0 : ByteArray := prog_14_method_31_code
def yX12_silent0 : MethodName := ⟨RX12, "silent0", "()V"⟩
abbrev cX12_asItIs : ByteArray := prog_14_method_32_code
def yX12_asItIs : MethodName := ⟨RX12, "asItIs", "()V"⟩
abbrev cX12_toneOf : ByteArray := prog_14_method_33_code
def yX12_toneOf : MethodName := ⟨RX12, "toneOf", "(III)I"⟩
abbrev cX12_isLost : ByteArray := prog_14_method_34_code
def yX12_isLost : MethodName := ⟨RX12, "isLost", "(I)Z"⟩
abbrev cX12_goNight : ByteArray := prog_14_method_35_code
def yX12_goNight : MethodName := ⟨RX12, "goNight", "()V"⟩
abbrev cX12_asksStation : ByteArray := prog_14_method_36_code
def yX12_asksStation : MethodName := ⟨RX12, "asksStation", "()Z"⟩
abbrev cX12_asksStep : ByteArray := prog_14_method_37_code
def yX12_asksStep : MethodName := ⟨RX12, "asksStep", "(I)Z"⟩
abbrev cX12_isPip : ByteArray := prog_14_method_38_code
def yX12_isPip : MethodName := ⟨RX12, "isPip", "(I)Z"⟩
abbrev cX12_pipsTo : ByteArray := prog_14_method_39_code
def yX12_pipsTo : MethodName := ⟨RX12, "pipsTo", "(I)I"⟩
abbrev cX12_firstPip : ByteArray := prog_14_method_40_code
def yX12_firstPip : MethodName := ⟨RX12, "firstPip", "()I"⟩
abbrev cX12_heard : ByteArray := prog_14_method_41_code
def yX12_heard : MethodName := ⟨RX12, "heard", "(I)I"⟩
abbrev cX12_last : ByteArray := prog_14_method_42_code
def yX12_last : MethodName := ⟨RX12, "last", "(I)I"⟩
abbrev cX12_answer : ByteArray := prog_14_method_43_code
def yX12_answer : MethodName := ⟨RX12, "answer", "(I)I"⟩
abbrev cX12_gaps : ByteArray := prog_14_method_44_code
def yX12_gaps : MethodName := ⟨RX12, "gaps", "(I)I"⟩
abbrev cX12_pips : ByteArray := prog_14_method_45_code
def yX12_pips : MethodName := ⟨RX12, "pips", "(I)I"⟩
abbrev cX12_wed : ByteArray := prog_14_method_46_code
def yX12_wed : MethodName := ⟨RX12, "wed", "()I"⟩
abbrev cX12_oftenTo : ByteArray := prog_14_method_47_code
def yX12_oftenTo : MethodName := ⟨RX12, "oftenTo", "(II)I"⟩
abbrev cX12_first : ByteArray := prog_14_method_48_code
def yX12_first : MethodName := ⟨RX12, "first", "(I)I"⟩
abbrev cX12_often : ByteArray := prog_14_method_49_code
def yX12_often : MethodName := ⟨RX12, "often", "(II)I"⟩
abbrev cX12_allTo : ByteArray := prog_14_method_50_code
def yX12_allTo : MethodName := ⟨RX12, "allTo", "(I)I"⟩
abbrev cX12_all : ByteArray := prog_14_method_51_code
def yX12_all : MethodName := ⟨RX12, "all", "(I)I"⟩
abbrev cX12_unlike : ByteArray := prog_14_method_52_code
def yX12_unlike : MethodName := ⟨RX12, "unlike", "(I)I"⟩
abbrev cX12_most : ByteArray := prog_14_method_53_code
def yX12_most : MethodName := ⟨RX12, "most", "()I"⟩
abbrev cX12_held : ByteArray := prog_14_method_54_code
def yX12_held : MethodName := ⟨RX12, "held", "()I"⟩
abbrev cX12_rises : ByteArray := prog_14_method_55_code
def yX12_rises : MethodName := ⟨RX12, "rises", "()I"⟩
abbrev cX12_falls : ByteArray := prog_14_method_56_code
def yX12_falls : MethodName := ⟨RX12, "falls", "()I"⟩
abbrev cX12_leap : ByteArray := prog_14_method_57_code
def yX12_leap : MethodName := ⟨RX12, "leap", "()I"⟩
abbrev cX12_when : ByteArray := prog_14_method_58_code
def yX12_when : MethodName := ⟨RX12, "when", "(I)I"⟩
abbrev cX12_echo : ByteArray := prog_14_method_59_code
def yX12_echo : MethodName := ⟨RX12, "echo", "(I)I"⟩
abbrev cX12_cool : ByteArray := prog_14_method_60_code
def yX12_cool : MethodName := ⟨RX12, "cool", "()I"⟩
abbrev cX12_speaksBesides : ByteArray := prog_14_method_61_code
def yX12_speaksBesides : MethodName := ⟨RX12, "speaksBesides", "(II)Z"⟩
abbrev cX12_shifted : ByteArray := prog_14_method_62_code
def yX12_shifted : MethodName := ⟨RX12, "shifted", "()I"⟩
abbrev cX12_shift : ByteArray := prog_14_method_63_code
def yX12_shift : MethodName := ⟨RX12, "shift", "(II)I"⟩
abbrev cX12_heals : ByteArray := prog_14_method_64_code
def yX12_heals : MethodName := ⟨RX12, "heals", "(II)I"⟩
abbrev cX12_worst : ByteArray := prog_14_method_65_code
def yX12_worst : MethodName := ⟨RX12, "worst", "(I)I"⟩
abbrev cX12_sooner : ByteArray := prog_14_method_66_code
def yX12_sooner : MethodName := ⟨RX12, "sooner", "(II)I"⟩
abbrev cX12_stateOf : ByteArray := prog_14_method_67_code
def yX12_stateOf : MethodName := ⟨RX12, "stateOf", "(III)I"⟩
abbrev cX12_goOne : ByteArray := prog_14_method_68_code
def yX12_goOne : MethodName := ⟨RX12, "goOne", "(I)V"⟩
abbrev cX12_layRound : ByteArray := prog_14_method_69_code
def yX12_layRound : MethodName := ⟨RX12, "layRound", "()V"⟩
abbrev cX12_settles : ByteArray := prog_14_method_70_code
def yX12_settles : MethodName := ⟨RX12, "settles", "()I"⟩
abbrev cX12_round : ByteArray := prog_14_method_71_code
def yX12_round : MethodName := ⟨RX12, "round", "()I"⟩
abbrev cX12_births : ByteArray := prog_14_method_72_code
def yX12_births : MethodName := ⟨RX12, "births", "()I"⟩
abbrev cX12_far : ByteArray := prog_14_method_73_code
def yX12_far : MethodName := ⟨RX12, "far", "(I)I"⟩
abbrev cX12_planState : ByteArray := prog_14_method_74_code
def yX12_planState : MethodName := ⟨RX12, "planState", "(III)I"⟩
abbrev cX12_thenBy : ByteArray := prog_14_method_75_code
def yX12_thenBy : MethodName := ⟨RX12, "thenBy", "(IIII)I"⟩
abbrev cX12_layState : ByteArray := prog_14_method_76_code
def yX12_layState : MethodName := ⟨RX12, "layState", "(IIIZ)V"⟩
abbrev cX12_layPlans : ByteArray := prog_14_method_77_code
def yX12_layPlans : MethodName := ⟨RX12, "layPlans", "(IIZ)V"⟩
abbrev cX12_isPlan : ByteArray := prog_14_method_78_code
def yX12_isPlan : MethodName := ⟨RX12, "isPlan", "(II)Z"⟩
abbrev cX12_fewestOf : ByteArray := prog_14_method_79_code
def yX12_fewestOf : MethodName := ⟨RX12, "fewestOf", "(IIZ)I"⟩
abbrev cX12_needs_ : ByteArray := prog_14_method_80_code
def yX12_needs_ : MethodName := ⟨RX12, "needs", "(II)I"⟩
abbrev cX12_quietly : ByteArray := prog_14_method_81_code
def yX12_quietly : MethodName := ⟨RX12, "quietly", "(II)I"⟩
abbrev cX12_plan : ByteArray := prog_14_method_82_code
def yX12_plan : MethodName := ⟨RX12, "plan", "(III)I"⟩
abbrev cX12_reach : ByteArray := prog_14_method_83_code
def yX12_reach : MethodName := ⟨RX12, "reach", "(I)I"⟩
abbrev cX12_mendStep : ByteArray := prog_14_method_84_code
def yX12_mendStep : MethodName := ⟨RX12, "mendStep", "(I)V"⟩
abbrev cX12_mend : ByteArray := prog_14_method_85_code
def yX12_mend : MethodName := ⟨RX12, "mend", "(II)I"⟩
abbrev cX12_numberAt : ByteArray := prog_14_method_86_code
def yX12_numberAt : MethodName := ⟨RX12, "numberAt", "(II)J"⟩
abbrev cX12_fitsLaw : ByteArray := prog_14_method_87_code
def yX12_fitsLaw : MethodName := ⟨RX12, "fitsLaw", "(I)Z"⟩
abbrev cX12_goLaw : ByteArray := prog_14_method_88_code
def yX12_goLaw : MethodName := ⟨RX12, "goLaw", "(I)V"⟩
abbrev cX12_triples : ByteArray := prog_14_method_89_code
def yX12_triples : MethodName := ⟨RX12, "triples", "()I"⟩
abbrev cX12_layLaws : ByteArray := prog_14_method_90_code
def yX12_layLaws : MethodName := ⟨RX12, "layLaws", "(I)I"⟩
abbrev cX12_laws : ByteArray := prog_14_method_91_code
def yX12_laws : MethodName := ⟨RX12, "laws", "(I)I"⟩
abbrev cX12_law : ByteArray := prog_14_method_92_code
def yX12_law : MethodName := ⟨RX12, "law", "(I)I"⟩
abbrev cX12_askOf : ByteArray := prog_14_method_93_code
def yX12_askOf : MethodName := ⟨RX12, "askOf", "()I"⟩
abbrev cX12_ask : ByteArray := prog_14_method_94_code
def yX12_ask : MethodName := ⟨RX12, "ask", "(I)I"⟩
abbrev cX12_leaves : ByteArray := prog_14_method_95_code
def yX12_leaves : MethodName := ⟨RX12, "leaves", "(I)I"⟩
abbrev cX12_pretty : ByteArray := prog_14_method_96_code
def yX12_pretty : MethodName := ⟨RX12, "pretty", "()I"⟩
abbrev cX12_silent : ByteArray := prog_14_method_97_code
def yX12_silent : MethodName := ⟨RX12, "silent", "()I"⟩
abbrev cX12_tuned : ByteArray := prog_14_method_98_code
def yX12_tuned : MethodName := ⟨RX12, "tuned", "()I"⟩
abbrev cX12_wayTo : ByteArray := prog_14_method_99_code
def yX12_wayTo : MethodName := ⟨RX12, "wayTo", "(II)I"⟩
abbrev cX12_layPlaces : ByteArray := prog_14_method_100_code
def yX12_layPlaces : MethodName := ⟨RX12, "layPlaces", "(IZ)I"⟩
abbrev cX12_places : ByteArray := prog_14_method_101_code
def yX12_places : MethodName := ⟨RX12, "places", "(I)I"⟩
abbrev cX12_place : ByteArray := prog_14_method_102_code
def yX12_place : MethodName := ⟨RX12, "place", "(I)I"⟩
abbrev cX12_farther : ByteArray := prog_14_method_103_code
def yX12_farther : MethodName := ⟨RX12, "farther", "(I)I"⟩
abbrev cX12_minuteOf : ByteArray := prog_14_method_104_code
def yX12_minuteOf : MethodName := ⟨RX12, "minuteOf", "(II)I"⟩
abbrev cX12_set : ByteArray := prog_14_method_105_code
def yX12_set : MethodName := ⟨RX12, "set", "(I)I"⟩
abbrev cX12_spread : ByteArray := prog_14_method_106_code
def yX12_spread : MethodName := ⟨RX12, "spread", "(I)I"⟩
abbrev cX12_blind : ByteArray := prog_14_method_107_code
def yX12_blind : MethodName := ⟨RX12, "blind", "()I"⟩
abbrev cX12_layParents : ByteArray := prog_14_method_108_code
def yX12_layParents : MethodName := ⟨RX12, "layParents", "(I)I"⟩
abbrev cX12_parents : ByteArray := prog_14_method_109_code
def yX12_parents : MethodName := ⟨RX12, "parents", "(I)I"⟩
abbrev cX12_parent : ByteArray := prog_14_method_110_code
def yX12_parent : MethodName := ⟨RX12, "parent", "(I)I"⟩
abbrev cX12_clock : ByteArray := prog_14_method_111_code
def yX12_clock : MethodName := ⟨RX12, "clock", "(II)I"⟩
abbrev cX12_soundsBy : ByteArray := prog_14_method_112_code
def yX12_soundsBy : MethodName := ⟨RX12, "soundsBy", "(II)I"⟩
abbrev cX12_bestBy : ByteArray := prog_14_method_113_code
def yX12_bestBy : MethodName := ⟨RX12, "bestBy", "(I)I"⟩
abbrev cX12_rests : ByteArray := prog_14_method_114_code
def yX12_rests : MethodName := ⟨RX12, "rests", "()I"⟩
abbrev cX12_sounds : ByteArray := prog_14_method_115_code
def yX12_sounds : MethodName := ⟨RX12, "sounds", "(II)I"⟩
abbrev cX12_best : ByteArray := prog_14_method_116_code
def yX12_best : MethodName := ⟨RX12, "best", "(I)I"⟩
abbrev cX12_power : ByteArray := prog_14_method_117_code
def yX12_power : MethodName := ⟨RX12, "power", "(JI)J"⟩
abbrev cX12_divisor : ByteArray := prog_14_method_118_code
def yX12_divisor : MethodName := ⟨RX12, "divisor", "(JJ)J"⟩
abbrev cX12_mayLose : ByteArray := prog_14_method_119_code
def yX12_mayLose : MethodName := ⟨RX12, "mayLose", "(I)I"⟩
abbrev cX12_chance : ByteArray := prog_14_method_120_code
def yX12_chance : MethodName := ⟨RX12, "chance", "(II)J"⟩
abbrev cX12_isSure : ByteArray := prog_14_method_121_code
def yX12_isSure : MethodName := ⟨RX12, "isSure", "(II)Z"⟩
abbrev cX12_sure : ByteArray := prog_14_method_122_code
def yX12_sure : MethodName := ⟨RX12, "sure", "(I)I"⟩
abbrev cX12_speak : ByteArray := prog_14_method_123_code
def yX12_speak : MethodName := ⟨RX12, "speak", "(II)I"⟩
abbrev cX12_spoken : ByteArray := prog_14_method_124_code
def yX12_spoken : MethodName := ⟨RX12, "spoken", "(I)I"⟩
abbrev cX12_undo : ByteArray := prog_14_method_125_code
def yX12_undo : MethodName := ⟨RX12, "undo", "()I"⟩
abbrev cX12_anew : ByteArray := prog_14_method_126_code
def yX12_anew : MethodName := ⟨RX12, "anew", "()I"⟩
abbrev cX12_isSeed : ByteArray := prog_14_method_127_code
def yX12_isSeed : MethodName := ⟨RX12, "isSeed", "(I)Z"⟩
abbrev cX12_goDrawn : ByteArray := prog_14_method_128_code
def yX12_goDrawn : MethodName := ⟨RX12, "goDrawn", "(J)V"⟩
abbrev cX12_drawn : ByteArray := prog_14_method_129_code
def yX12_drawn : MethodName := ⟨RX12, "drawn", "(III)I"⟩
abbrev cX12_luck : ByteArray := prog_14_method_130_code
def yX12_luck : MethodName := ⟨RX12, "luck", "(IIII)I"⟩
abbrev cX12_tune : ByteArray := prog_14_method_131_code
def yX12_tune : MethodName := ⟨RX12, "tune", "(I)I"⟩
abbrev cX12_count : ByteArray := prog_14_method_132_code
def yX12_count : MethodName := ⟨RX12, "count", "(I)I"⟩
abbrev cX12_isSlot : ByteArray := prog_14_method_133_code
def yX12_isSlot : MethodName := ⟨RX12, "isSlot", "(I)Z"⟩
abbrev cX12_cut : ByteArray := prog_14_method_134_code
def yX12_cut : MethodName := ⟨RX12, "cut", "(JI)J"⟩
abbrev cX12_row : ByteArray := prog_14_method_135_code
def yX12_row : MethodName := ⟨RX12, "row", "(III)I"⟩
abbrev cX12_write : ByteArray := prog_14_method_136_code
def yX12_write : MethodName := ⟨RX12, "write", "(IIJ)I"⟩
abbrev cX12_paste : ByteArray := prog_14_method_137_code
def yX12_paste : MethodName := ⟨RX12, "paste", "(IIIII)I"⟩
def RJx145de : String := "java/io/Serializable"
def TJx145de : u_T := fun k => match k with
  | _ => ("", "", "", false)
def tyJx145de : Nat → FieldType := fun k => match k with
  | _ => .int
abbrev wsJx145de0 : List Cond := u_ws RJx145de TJx145de 0
theorem nmJx145de : ∀ a, a < 0 → ∀ b, b < 0 → a ≠ b → (TJx145de a).2.1 ≠ (TJx145de b).2.1 := by decide +kernel
theorem tyJx145de_ok : ∀ k, k < 0 → parseFieldDescriptor (TJx145de k).2.2.1 = some (tyJx145de k) := by decide +kernel
def RJx9f9b0 : String := "java/lang/CharSequence"
def TJx9f9b0 : u_T := fun k => match k with
  | _ => ("", "", "", false)
def tyJx9f9b0 : Nat → FieldType := fun k => match k with
  | _ => .int
abbrev wsJx9f9b00 : List Cond := u_ws RJx9f9b0 TJx9f9b0 0
theorem nmJx9f9b0 : ∀ a, a < 0 → ∀ b, b < 0 → a ≠ b → (TJx9f9b0 a).2.1 ≠ (TJx9f9b0 b).2.1 := by decide +kernel
theorem tyJx9f9b0_ok : ∀ k, k < 0 → parseFieldDescriptor (TJx9f9b0 k).2.2.1 = some (tyJx9f9b0 k) := by decide +kernel
def RJxb160c : String := "java/lang/Comparable"
def TJxb160c : u_T := fun k => match k with
  | _ => ("", "", "", false)
def tyJxb160c : Nat → FieldType := fun k => match k with
  | _ => .int
abbrev wsJxb160c0 : List Cond := u_ws RJxb160c TJxb160c 0
theorem nmJxb160c : ∀ a, a < 0 → ∀ b, b < 0 → a ≠ b → (TJxb160c a).2.1 ≠ (TJxb160c b).2.1 := by decide +kernel
theorem tyJxb160c_ok : ∀ k, k < 0 → parseFieldDescriptor (TJxb160c k).2.2.1 = some (tyJxb160c k) := by decide +kernel
def RJ6 : String := "java/lang/Integer"
def TJ6 : u_T := fun k => match k with
  | _ => ("", "", "", false)
def tyJ6 : Nat → FieldType := fun k => match k with
  | _ => .int
abbrev wsJ60 : List Cond := u_ws RJ6 TJ6 0
theorem nmJ6 : ∀ a, a < 0 → ∀ b, b < 0 → a ≠ b → (TJ6 a).2.1 ≠ (TJ6 b).2.1 := by decide +kernel
theorem tyJ6_ok : ∀ k, k < 0 → parseFieldDescriptor (TJ6 k).2.2.1 = some (tyJ6 k) := by decide +kernel
abbrev cJ6_bitCount_0f7a4 : ByteArray := prog_15_method_49_code
def yJ6_bitCount_0f7a4 : MethodName := ⟨RJ6, "bitCount", "(I)I"⟩
def RJ9 : String := "java/lang/Math"
def TJ9 : u_T := fun k => match k with
  | _ => ("", "", "", false)
def tyJ9 : Nat → FieldType := fun k => match k with
  | _ => .int
abbrev wsJ90 : List Cond := u_ws RJ9 TJ9 0
theorem nmJ9 : ∀ a, a < 0 → ∀ b, b < 0 → a ≠ b → (TJ9 a).2.1 ≠ (TJ9 b).2.1 := by decide +kernel
theorem tyJ9_ok : ∀ k, k < 0 → parseFieldDescriptor (TJ9 k).2.2.1 = some (tyJ9 k) := by decide +kernel
abbrev cJ9_abs_0f7a4 : ByteArray := prog_16_method_59_code
def yJ9_abs_0f7a4 : MethodName := ⟨RJ9, "abs", "(I)I"⟩
abbrev cJ9_max_7cf53 : ByteArray := prog_16_method_65_code
def yJ9_max_7cf53 : MethodName := ⟨RJ9, "max", "(II)I"⟩
abbrev cJ9_min_7cf53 : ByteArray := prog_16_method_69_code
def yJ9_min_7cf53 : MethodName := ⟨RJ9, "min", "(II)I"⟩
def RJ0 : String := "java/lang/String"
def TJ0 : u_T := fun k => match k with
  | _ => ("", "", "", false)
def tyJ0 : Nat → FieldType := fun k => match k with
  | _ => .int
abbrev wsJ00 : List Cond := u_ws RJ0 TJ0 0
theorem nmJ0 : ∀ a, a < 0 → ∀ b, b < 0 → a ≠ b → (TJ0 a).2.1 ≠ (TJ0 b).2.1 := by decide +kernel
theorem tyJ0_ok : ∀ k, k < 0 → parseFieldDescriptor (TJ0 k).2.2.1 = some (tyJ0 k) := by decide +kernel
abbrev cJ0_length_8abf5 : ByteArray := prog_17_method_54_code
def yJ0_length_8abf5 : MethodName := ⟨RJ0, "length", "()I"⟩
abbrev cJ0_charAt_5068e : ByteArray := prog_17_method_56_code
def yJ0_charAt_5068e : MethodName := ⟨RJ0, "charAt", "(I)C"⟩
abbrev cJ0_coder_7d493 : ByteArray := prog_17_method_152_code
def yJ0_coder_7d493 : MethodName := ⟨RJ0, "coder", "()B"⟩
abbrev cJ0_isLatin1_aae02 : ByteArray := prog_17_method_154_code
def yJ0_isLatin1_aae02 : MethodName := ⟨RJ0, "isLatin1", "()Z"⟩
abbrev cJ0_checkIndex_df160 : ByteArray := prog_17_method_155_code
def yJ0_checkIndex_df160 : MethodName := ⟨RJ0, "checkIndex", "(II)V"⟩
def RJ1 : String := "java/lang/StringLatin1"
def TJ1 : u_T := fun k => match k with
  | _ => ("", "", "", false)
def tyJ1 : Nat → FieldType := fun k => match k with
  | _ => .int
abbrev wsJ10 : List Cond := u_ws RJ1 TJ1 0
theorem nmJ1 : ∀ a, a < 0 → ∀ b, b < 0 → a ≠ b → (TJ1 a).2.1 ≠ (TJ1 b).2.1 := by decide +kernel
theorem tyJ1_ok : ∀ k, k < 0 → parseFieldDescriptor (TJ1 k).2.2.1 = some (tyJ1 k) := by decide +kernel
abbrev cJ1_charAt_3b067 : ByteArray := prog_18_method_2_code
def yJ1_charAt_3b067 : MethodName := ⟨RJ1, "charAt", "([BI)C"⟩
def RJ2 : String := "java/lang/StringUTF16"
def TJ2 : u_T := fun k => match k with
  | _ => ("", "", "", false)
def tyJ2 : Nat → FieldType := fun k => match k with
  | _ => .int
abbrev wsJ20 : List Cond := u_ws RJ2 TJ2 0
theorem nmJ2 : ∀ a, a < 0 → ∀ b, b < 0 → a ≠ b → (TJ2 a).2.1 ≠ (TJ2 b).2.1 := by decide +kernel
theorem tyJ2_ok : ∀ k, k < 0 → parseFieldDescriptor (TJ2 k).2.2.1 = some (tyJ2 k) := by decide +kernel
abbrev cJ2_getChar_3b067 : ByteArray := prog_19_method_5_code
def yJ2_getChar_3b067 : MethodName := ⟨RJ2, "getChar", "([BI)C"⟩
abbrev cJ2_length_9d52b : ByteArray := prog_19_method_6_code
def yJ2_length_9d52b : MethodName := ⟨RJ2, "length", "([B)I"⟩
abbrev cJ2_charAt_3b067 : ByteArray := prog_19_method_83_code
def yJ2_charAt_3b067 : MethodName := ⟨RJ2, "charAt", "([BI)C"⟩
abbrev cJ2_checkIndex_2214a : ByteArray := prog_19_method_91_code
def yJ2_checkIndex_2214a : MethodName := ⟨RJ2, "checkIndex", "(I[B)V"⟩
def RJ10 : String := "java/lang/System"
def TJ10 : u_T := fun k => match k with
  | _ => ("", "", "", false)
def tyJ10 : Nat → FieldType := fun k => match k with
  | _ => .int
abbrev wsJ100 : List Cond := u_ws RJ10 TJ10 0
theorem nmJ10 : ∀ a, a < 0 → ∀ b, b < 0 → a ≠ b → (TJ10 a).2.1 ≠ (TJ10 b).2.1 := by decide +kernel
theorem tyJ10_ok : ∀ k, k < 0 → parseFieldDescriptor (TJ10 k).2.2.1 = some (tyJ10 k) := by decide +kernel
def RJxfd54e : String := "java/lang/constant/Constable"
def TJxfd54e : u_T := fun k => match k with
  | _ => ("", "", "", false)
def tyJxfd54e : Nat → FieldType := fun k => match k with
  | _ => .int
abbrev wsJxfd54e0 : List Cond := u_ws RJxfd54e TJxfd54e 0
theorem nmJxfd54e : ∀ a, a < 0 → ∀ b, b < 0 → a ≠ b → (TJxfd54e a).2.1 ≠ (TJxfd54e b).2.1 := by decide +kernel
theorem tyJxfd54e_ok : ∀ k, k < 0 → parseFieldDescriptor (TJxfd54e k).2.2.1 = some (tyJxfd54e k) := by decide +kernel
def RJx3cf43 : String := "java/lang/constant/ConstantDesc"
def TJx3cf43 : u_T := fun k => match k with
  | _ => ("", "", "", false)
def tyJx3cf43 : Nat → FieldType := fun k => match k with
  | _ => .int
abbrev wsJx3cf430 : List Cond := u_ws RJx3cf43 TJx3cf43 0
theorem nmJx3cf43 : ∀ a, a < 0 → ∀ b, b < 0 → a ≠ b → (TJx3cf43 a).2.1 ≠ (TJx3cf43 b).2.1 := by decide +kernel
theorem tyJx3cf43_ok : ∀ k, k < 0 → parseFieldDescriptor (TJx3cf43 k).2.2.1 = some (tyJx3cf43 k) := by decide +kernel
def RJ7 : String := "java/util/Arrays"
def TJ7 : u_T := fun k => match k with
  | _ => ("", "", "", false)
def tyJ7 : Nat → FieldType := fun k => match k with
  | _ => .int
abbrev wsJ70 : List Cond := u_ws RJ7 TJ7 0
theorem nmJ7 : ∀ a, a < 0 → ∀ b, b < 0 → a ≠ b → (TJ7 a).2.1 ≠ (TJ7 b).2.1 := by decide +kernel
theorem tyJ7_ok : ∀ k, k < 0 → parseFieldDescriptor (TJ7 k).2.2.1 = some (tyJ7 k) := by decide +kernel
abbrev cJ7_fill_d0a16 : ByteArray := prog_21_method_101_code
def yJ7_fill_d0a16 : MethodName := ⟨RJ7, "fill", "([JJ)V"⟩
abbrev cJ7_fill_53178 : ByteArray := prog_21_method_103_code
def yJ7_fill_53178 : MethodName := ⟨RJ7, "fill", "([II)V"⟩
def RJ3 : String := "jdk/internal/util/Preconditions"
def TJ3 : u_T := fun k => match k with
  | _ => ("", "", "", false)
def tyJ3 : Nat → FieldType := fun k => match k with
  | _ => .int
abbrev wsJ30 : List Cond := u_ws RJ3 TJ3 0
theorem nmJ3 : ∀ a, a < 0 → ∀ b, b < 0 → a ≠ b → (TJ3 a).2.1 ≠ (TJ3 b).2.1 := by decide +kernel
theorem tyJ3_ok : ∀ k, k < 0 → parseFieldDescriptor (TJ3 k).2.2.1 = some (tyJ3 k) := by decide +kernel
abbrev cJ3_checkIndex_8e157 : ByteArray := prog_22_method_11_code
def yJ3_checkIndex_8e157 : MethodName := ⟨RJ3, "checkIndex", "(IILjava/util/function/BiFunction;)I"⟩
def RL : String := "IntervalSignalLaw"
abbrev cL_law : ByteArray := code
def yL_law : MethodName := ⟨RL, "law", "([I)Z"⟩
def wsL_law_r1 : List Cond := [Cond.classLink RL 7 RX11, Cond.instantiable RX11 14, Cond.initialized RX11, Cond.classLink RL 10 RX12, Cond.instantiable RX12 48, Cond.initialized RX12, Cond.constantLong RL 296 (4294967295), Cond.methodLink RL 9 yX11_init, Cond.instanceMethod yX11_init, Cond.code yX11_init cX11_init 2 none, Cond.methodLink RX11 3 objectInit, Cond.instanceMethod objectInit, Cond.code objectInit ⟨#[0xb1]⟩ 1 none, Cond.classLink RX11 9 RX9, Cond.instantiable RX9 2, Cond.initialized RX9, Cond.fieldLink RX11 12 "IntervalSignal" "tape" "LIntervalSignal$Tape;", Cond.classLink RX11 16 RX6, Cond.instantiable RX6 7, Cond.initialized RX6, Cond.fieldLink RX11 19 "IntervalSignal" "reader" "LIntervalSignal$Reader;", Cond.classLink RX11 23 RX8, Cond.instantiable RX8 12, Cond.initialized RX8]
def wsL_law_r2 : List Cond := [Cond.fieldLink RX11 26 "IntervalSignal" "now" "LIntervalSignal$Station;", Cond.fieldLink RX11 30 "IntervalSignal" "trial" "LIntervalSignal$Station;", Cond.fieldLink RX11 33 "IntervalSignal" "images" "[LIntervalSignal$Station;", Cond.arrayClass .boolean, Cond.fieldLink RX11 37 "IntervalSignal" "imageKept" "[Z", Cond.classLink RX11 41 RX7, Cond.fieldLink RX11 43 "IntervalSignal" "slots" "[LIntervalSignal$Slot;", Cond.instantiable RX7 4, Cond.initialized RX7, Cond.classLink RX11 48 RX4, Cond.instantiable RX4 4, Cond.initialized RX4, Cond.fieldLink RX11 51 "IntervalSignal" "night" "LIntervalSignal$Night;", Cond.fieldLink RX11 55 "IntervalSignal" "otherNight" "LIntervalSignal$Night;", Cond.classLink RX11 58 RX1, Cond.instantiable RX1 5, Cond.initialized RX1, Cond.fieldLink RX11 61 "IntervalSignal" "circle" "LIntervalSignal$Circle;", Cond.classLink RX11 65 RX10, Cond.instantiable RX10 3, Cond.initialized RX10, Cond.fieldLink RX11 68 "IntervalSignal" "words" "LIntervalSignal$Words;", Cond.classLink RX11 72 RX3, Cond.instantiable RX3 8]
def wsL_law_r3 : List Cond := [Cond.initialized RX3, Cond.fieldLink RX11 75 "IntervalSignal" "lawSearch" "LIntervalSignal$LawSearch;", Cond.classLink RX11 79 RX5, Cond.instantiable RX5 5, Cond.initialized RX5, Cond.fieldLink RX11 82 "IntervalSignal" "placeSearch" "LIntervalSignal$PlaceSearch;", Cond.classLink RX11 86 RX2, Cond.instantiable RX2 4, Cond.initialized RX2, Cond.fieldLink RX11 89 "IntervalSignal" "drawnNight" "LIntervalSignal$DrawnNight;", Cond.instanceMethod yX9_init, Cond.code yX9_init cX9_init 1 none, Cond.methodLink RX9 3 objectInit, Cond.arrayClass .byte, Cond.fieldLink RX9 9 "IntervalSignal$Tape" "bytes" "[B", Cond.instanceMethod yX6_init, Cond.code yX6_init cX6_init 1 none, Cond.methodLink RX6 3 objectInit, Cond.classLink RX6 9 RX8, Cond.fieldLink RX6 12 "IntervalSignal$Reader" "draft" "LIntervalSignal$Station;", Cond.fieldLink RX6 18 "IntervalSignal$Reader" "faultAt" "I", Cond.instanceMethod yX8_init, Cond.code yX8_init cX8_init 1 none, Cond.methodLink RX8 3 objectInit]
def wsL_law_r4 : List Cond := [Cond.arrayClass .int, Cond.fieldLink RX8 9 "IntervalSignal$Station" "signs" "[I", Cond.fieldLink RX8 15 "IntervalSignal$Station" "posts" "[I", Cond.classLink RX8 18 RX0, Cond.instantiable RX0 4, Cond.initialized RX0, Cond.fieldLink RX8 21 "IntervalSignal$Station" "acts" "LIntervalSignal$Acts;", Cond.methodLink RX8 20 yX0_init, Cond.instanceMethod yX0_init, Cond.code yX0_init cX0_init 1 none, Cond.methodLink RX0 3 objectInit, Cond.fieldLink RX0 9 "IntervalSignal$Acts" "over" "[I", Cond.fieldLink RX0 15 "IntervalSignal$Acts" "steps" "[I", Cond.fieldLink RX0 18 "IntervalSignal$Acts" "before" "[I", Cond.methodLink RX0 21 yJ7_fill_53178, Cond.static yJ7_fill_53178, Cond.initialized RJ7, Cond.code yJ7_fill_53178 cJ7_fill_53178 4 none, Cond.instanceMethod yX7_init, Cond.code yX7_init cX7_init 1 none, Cond.methodLink RX7 3 objectInit, Cond.arrayClass .long, Cond.fieldLink RX7 9 "IntervalSignal$Slot" "numbers" "[J", Cond.instanceMethod yX4_init]
def wsL_law_r5 : List Cond := [Cond.code yX4_init cX4_init 1 none, Cond.methodLink RX4 3 objectInit, Cond.fieldLink RX4 9 "IntervalSignal$Night" "tones" "[I", Cond.fieldLink RX4 15 "IntervalSignal$Night" "lasts" "[I", Cond.fieldLink RX4 18 "IntervalSignal$Night" "answers" "[I", Cond.fieldLink RX4 21 "IntervalSignal$Night" "pip" "[Z", Cond.instanceMethod yX1_init, Cond.code yX1_init cX1_init 1 none, Cond.methodLink RX1 3 objectInit, Cond.fieldLink RX1 11 "IntervalSignal$Circle" "stepOfState" "[I", Cond.fieldLink RX1 15 "IntervalSignal$Circle" "tones" "[I", Cond.fieldLink RX1 18 "IntervalSignal$Circle" "pip" "[Z", Cond.fieldLink RX1 22 "IntervalSignal$Circle" "from" "I", Cond.fieldLink RX1 26 "IntervalSignal$Circle" "behind" "I", Cond.instanceMethod yX10_init, Cond.code yX10_init cX10_init 1 none, Cond.methodLink RX10 3 objectInit, Cond.fieldLink RX10 11 "IntervalSignal$Words" "spent" "[I", Cond.fieldLink RX10 15 "IntervalSignal$Words" "spentNext" "[I", Cond.fieldLink RX10 18 "IntervalSignal$Words" "missing" "[I", Cond.instanceMethod yX3_init, Cond.code yX3_init cX3_init 1 none, Cond.methodLink RX3 3 objectInit, Cond.classLink RX3 9 RX8]
def wsL_law_r6 : List Cond := [Cond.fieldLink RX3 12 "IntervalSignal$LawSearch" "trial" "LIntervalSignal$Station;", Cond.classLink RX3 18 RX4, Cond.fieldLink RX3 21 "IntervalSignal$LawSearch" "night" "LIntervalSignal$Night;", Cond.fieldLink RX3 25 "IntervalSignal$LawSearch" "tally" "[I", Cond.instanceMethod yX5_init, Cond.code yX5_init cX5_init 1 none, Cond.methodLink RX5 3 objectInit, Cond.fieldLink RX5 9 "IntervalSignal$PlaceSearch" "sentAt" "[I", Cond.fieldLink RX5 15 "IntervalSignal$PlaceSearch" "tally" "[I", Cond.instanceMethod yX2_init, Cond.code yX2_init cX2_init 1 none, Cond.methodLink RX2 3 objectInit, Cond.methodLink RL 12 yX12_init, Cond.instanceMethod yX12_init, Cond.code yX12_init cX12_init 1 none, Cond.methodLink RX12 3 objectInit, Cond.fieldLink RX12 9 "IntervalSignalModel" "world" "[I", Cond.fieldLink RX12 13 "IntervalSignalModel" "images" "[I", Cond.fieldLink RX12 16 "IntervalSignalModel" "hasImage" "[Z", Cond.fieldLink RX12 20 "IntervalSignalModel" "tape" "[B", Cond.fieldLink RX12 24 "IntervalSignalModel" "five" "[I", Cond.fieldLink RX12 27 "IntervalSignalModel" "faultPlace" "I", Cond.fieldLink RX12 31 "IntervalSignalModel" "fresh" "[I", Cond.fieldLink RX12 34 "IntervalSignalModel" "spokenAt" "[I"]
def wsL_law_r7 : List Cond := [Cond.fieldLink RX12 37 "IntervalSignalModel" "heardAt" "[I", Cond.fieldLink RX12 40 "IntervalSignalModel" "lastAt" "[I", Cond.fieldLink RX12 43 "IntervalSignalModel" "answerAt" "[I", Cond.fieldLink RX12 46 "IntervalSignalModel" "heardNow" "[I", Cond.fieldLink RX12 49 "IntervalSignalModel" "seenAt" "[I", Cond.fieldLink RX12 52 "IntervalSignalModel" "fewest" "[I", Cond.fieldLink RX12 55 "IntervalSignalModel" "costNow" "[I", Cond.fieldLink RX12 58 "IntervalSignalModel" "costThen" "[I", Cond.fieldLink RX12 61 "IntervalSignalModel" "lawsOf" "[I", Cond.constant RX12 64 (44469), Cond.fieldLink RX12 65 "IntervalSignalModel" "heardBy" "[I", Cond.fieldLink RX12 68 "IntervalSignalModel" "placesOf" "[I", Cond.fieldLink RX12 71 "IntervalSignalModel" "sentIn" "[I", Cond.fieldLink RX12 74 "IntervalSignalModel" "lostBy" "[I", Cond.fieldLink RX12 77 "IntervalSignalModel" "many" "[I", Cond.fieldLink RX12 80 "IntervalSignalModel" "width" "[I", Cond.fieldLink RX12 83 "IntervalSignalModel" "numbers" "[J", Cond.fieldLink RX12 87 "IntervalSignalModel" "moving" "[J", Cond.methodLink RL 13 yX11_feed, Cond.instanceMethod yX11_feed, Cond.selects RX11 yX11_feed yX11_feed, Cond.code yX11_feed cX11_feed 6 (some .int), Cond.methodLink RX11 93 yX9_size, Cond.instanceMethod yX9_size]
def wsL_law_r8 : List Cond := [Cond.selects RX9 yX9_size yX9_size, Cond.code yX9_size cX9_size 1 (some .int), Cond.fieldLink RX9 15 "IntervalSignal$Tape" "length" "I", Cond.methodLink RX11 97 yX9_add, Cond.instanceMethod yX9_add, Cond.selects RX9 yX9_add yX9_add, Cond.code yX9_add cX9_add 3 none, Cond.methodLink RL 17 yX12_feed, Cond.instanceMethod yX12_feed, Cond.selects RX12 yX12_feed yX12_feed, Cond.code yX12_feed cX12_feed 7 (some .int), Cond.fieldLink RX12 109 "IntervalSignalModel" "taped" "I", Cond.methodLink RL 18 yX11_end, Cond.instanceMethod yX11_end, Cond.selects RX11 yX11_end yX11_end, Cond.code yX11_end cX11_end 2 (some .int), Cond.methodLink RX11 101 yX11_outside, Cond.static yX11_outside, Cond.code yX11_outside cX11_outside 6 (some .boolean), Cond.methodLink RX11 105 yX9_cut, Cond.instanceMethod yX9_cut, Cond.selects RX9 yX9_cut yX9_cut, Cond.code yX9_cut cX9_cut 2 none, Cond.methodLink RL 22 yX12_end]
def wsL_law_r9 : List Cond := [Cond.instanceMethod yX12_end, Cond.selects RX12 yX12_end yX12_end, Cond.code yX12_end cX12_end 2 (some .int), Cond.methodLink RX12 95 yX12_in, Cond.static yX12_in, Cond.code yX12_in cX12_in 6 (some .boolean), Cond.methodLink RL 23 yX11_station, Cond.instanceMethod yX11_station, Cond.selects RX11 yX11_station yX11_station, Cond.code yX11_station cX11_station 1 (some .int), Cond.methodLink RX11 108 yX6_read, Cond.instanceMethod yX6_read, Cond.selects RX6 yX6_read yX6_read, Cond.code yX6_read cX6_read 3 none, Cond.fieldLink RX6 22 "IntervalSignal$Reader" "fault" "I", Cond.fieldLink RX6 28 "IntervalSignal$Reader" "behind" "I", Cond.fieldLink RX6 35 "IntervalSignal$Reader" "kind" "I", Cond.methodLink RX6 25 yX8_clear, Cond.instanceMethod yX8_clear, Cond.selects RX8 yX8_clear yX8_clear, Cond.code yX8_clear cX8_clear 1 none, Cond.fieldLink RX8 44 "IntervalSignal$Station" "lines" "I", Cond.fieldLink RX8 47 "IntervalSignal$Station" "signCount" "I", Cond.fieldLink RX8 50 "IntervalSignal$Station" "postCount" "I"]
def wsL_law_r10 : List Cond := [Cond.methodLink RX8 53 yX8_setHead, Cond.instanceMethod yX8_setHead, Cond.selects RX8 yX8_setHead yX8_setHead, Cond.code yX8_setHead cX8_setHead 4 none, Cond.fieldLink RX8 25 "IntervalSignal$Station" "tones" "I", Cond.fieldLink RX8 38 "IntervalSignal$Station" "d" "I", Cond.fieldLink RX8 41 "IntervalSignal$Station" "odds" "I", Cond.methodLink RX8 57 yX8_setLaw, Cond.instanceMethod yX8_setLaw, Cond.selects RX8 yX8_setLaw yX8_setLaw, Cond.code yX8_setLaw cX8_setLaw 4 none, Cond.fieldLink RX8 29 "IntervalSignal$Station" "a" "I", Cond.fieldLink RX8 32 "IntervalSignal$Station" "b" "I", Cond.fieldLink RX8 35 "IntervalSignal$Station" "c" "I", Cond.methodLink RX8 60 yX0_clear, Cond.instanceMethod yX0_clear, Cond.selects RX0 yX0_clear yX0_clear, Cond.code yX0_clear cX0_clear 1 none, Cond.fieldLink RX0 27 "IntervalSignal$Acts" "size" "I", Cond.methodLink RX6 31 yX6_nextToken, Cond.instanceMethod yX6_nextToken, Cond.selects RX6 yX6_nextToken yX6_nextToken, Cond.code yX6_nextToken cX6_nextToken 3 none, Cond.fieldLink RX6 126 "IntervalSignal$Reader" "start" "I"]
def wsL_law_r11 : List Cond := [Cond.methodLink RX6 134 yX9_byteAt, Cond.instanceMethod yX9_byteAt, Cond.selects RX9 yX9_byteAt yX9_byteAt, Cond.code yX9_byteAt cX9_byteAt 2 (some .int), Cond.methodLink RX6 144 yX6_isBlank, Cond.static yX6_isBlank, Cond.code yX6_isBlank cX6_isBlank 1 (some .boolean), Cond.methodLink RX6 148 yX6_isLetter, Cond.static yX6_isLetter, Cond.code yX6_isLetter cX6_isLetter 1 (some .boolean), Cond.methodLink RX6 151 yX6_readWord, Cond.instanceMethod yX6_readWord, Cond.selects RX6 yX6_readWord yX6_readWord, Cond.code yX6_readWord cX6_readWord 2 none, Cond.methodLink RX6 154 yX6_isDigit, Cond.static yX6_isDigit, Cond.code yX6_isDigit cX6_isDigit 1 (some .boolean), Cond.methodLink RX6 157 yX6_readNumber, Cond.instanceMethod yX6_readNumber, Cond.selects RX6 yX6_readNumber yX6_readNumber, Cond.code yX6_readNumber cX6_readNumber 2 none, Cond.fieldLink RX6 119 "IntervalSignal$Reader" "number" "I", Cond.methodLink RX6 38 yX6_readLine, Cond.instanceMethod yX6_readLine]
def wsL_law_r12 : List Cond := [Cond.selects RX6 yX6_readLine yX6_readLine, Cond.code yX6_readLine cX6_readLine 2 none, Cond.methodLink RX6 41 yX8_lines, Cond.instanceMethod yX8_lines, Cond.selects RX8 yX8_lines yX8_lines, Cond.code yX8_lines cX8_lines 1 (some .int), Cond.methodLink RX6 45 yX6_readHead, Cond.instanceMethod yX6_readHead, Cond.selects RX6 yX6_readHead yX6_readHead, Cond.code yX6_readHead cX6_readHead 8 none, Cond.methodLink RX6 76 yX6_takeWord, Cond.instanceMethod yX6_takeWord, Cond.selects RX6 yX6_takeWord yX6_takeWord, Cond.code yX6_takeWord cX6_takeWord 3 none, Cond.methodLink RX6 50 yX6_isWord, Cond.instanceMethod yX6_isWord, Cond.selects RX6 yX6_isWord yX6_isWord, Cond.code yX6_isWord cX6_isWord 4 (some .boolean), Cond.methodLink RX6 129 yJ0_length_8abf5, Cond.instanceMethod yJ0_length_8abf5, Cond.selects RJ0 yJ0_length_8abf5 yJ0_length_8abf5, Cond.initialized RJ0, Cond.code yJ0_length_8abf5 cJ0_length_8abf5 1 (some .int), Cond.fieldLink RJ0 9 "java/lang/String" "value" "[B"]
def wsL_law_r13 : List Cond := [Cond.methodLink RJ0 335 yJ0_coder_7d493, Cond.instanceMethod yJ0_coder_7d493, Cond.selects RJ0 yJ0_coder_7d493 yJ0_coder_7d493, Cond.code yJ0_coder_7d493 cJ0_coder_7d493 1 (some .byte), Cond.fieldLink RJ0 38 "java/lang/String" "COMPACT_STRINGS" "Z", Cond.fieldLink RJ0 15 "java/lang/String" "coder" "B", Cond.methodLink RX6 140 yJ0_charAt_5068e, Cond.instanceMethod yJ0_charAt_5068e, Cond.selects RJ0 yJ0_charAt_5068e yJ0_charAt_5068e, Cond.code yJ0_charAt_5068e cJ0_charAt_5068e 2 (some .char), Cond.methodLink RJ0 492 yJ0_isLatin1_aae02, Cond.instanceMethod yJ0_isLatin1_aae02, Cond.selects RJ0 yJ0_isLatin1_aae02 yJ0_isLatin1_aae02, Cond.code yJ0_isLatin1_aae02 cJ0_isLatin1_aae02 1 (some .boolean), Cond.methodLink RJ0 495 yJ1_charAt_3b067, Cond.static yJ1_charAt_3b067, Cond.initialized RJ1, Cond.code yJ1_charAt_3b067 cJ1_charAt_3b067 2 (some .char), Cond.methodLink RJ1 9 yJ0_checkIndex_df160, Cond.static yJ0_checkIndex_df160, Cond.code yJ0_checkIndex_df160 cJ0_checkIndex_df160 2 none, Cond.fieldLink RJ0 1053 "jdk/internal/util/Preconditions" "SIOOBE_FORMATTER" "Ljava/util/function/BiFunction;", Cond.methodLink RJ0 1059 yJ3_checkIndex_8e157, Cond.static yJ3_checkIndex_8e157]
def wsL_law_r14 : List Cond := [Cond.initialized RJ3, Cond.code yJ3_checkIndex_8e157 cJ3_checkIndex_8e157 3 (some .int), Cond.methodLink RJ0 498 yJ2_charAt_3b067, Cond.static yJ2_charAt_3b067, Cond.initialized RJ2, Cond.code yJ2_charAt_3b067 cJ2_charAt_3b067 2 (some .char), Cond.methodLink RJ2 67 yJ2_checkIndex_2214a, Cond.static yJ2_checkIndex_2214a, Cond.code yJ2_checkIndex_2214a cJ2_checkIndex_2214a 2 none, Cond.methodLink RJ2 48 yJ2_length_9d52b, Cond.static yJ2_length_9d52b, Cond.code yJ2_length_9d52b cJ2_length_9d52b 1 (some .int), Cond.methodLink RJ2 414 yJ0_checkIndex_df160, Cond.methodLink RJ2 71 yJ2_getChar_3b067, Cond.static yJ2_getChar_3b067, Cond.code yJ2_getChar_3b067 cJ2_getChar_3b067 2 (some .char), Cond.fieldLink RJ2 44 "java/lang/StringUTF16" "$assertionsDisabled" "Z", Cond.fieldLink RJ2 59 "java/lang/StringUTF16" "HI_BYTE_SHIFT" "I", Cond.fieldLink RJ2 63 "java/lang/StringUTF16" "LO_BYTE_SHIFT" "I", Cond.methodLink RX6 67 yX6_fail, Cond.instanceMethod yX6_fail, Cond.selects RX6 yX6_fail yX6_fail, Cond.code yX6_fail cX6_fail 2 none, Cond.methodLink RX6 82 yX6_takeNumber]
def wsL_law_r15 : List Cond := [Cond.instanceMethod yX6_takeNumber, Cond.selects RX6 yX6_takeNumber yX6_takeNumber, Cond.code yX6_takeNumber cX6_takeNumber 5 (some .int), Cond.methodLink RX6 96 yX8_setHead, Cond.methodLink RX6 100 yX8_setLaw, Cond.methodLink RX6 54 yX6_readNote, Cond.instanceMethod yX6_readNote, Cond.selects RX6 yX6_readNote yX6_readNote, Cond.code yX6_readNote cX6_readNote 3 none, Cond.methodLink RX6 103 yX8_signCount, Cond.instanceMethod yX8_signCount, Cond.selects RX8 yX8_signCount yX8_signCount, Cond.code yX8_signCount cX8_signCount 1 (some .int), Cond.methodLink RX6 106 yX8_tones, Cond.instanceMethod yX8_tones, Cond.selects RX8 yX8_tones yX8_tones, Cond.code yX8_tones cX8_tones 1 (some .int), Cond.methodLink RX6 108 yX8_addSign, Cond.instanceMethod yX8_addSign, Cond.selects RX8 yX8_addSign yX8_addSign, Cond.code yX8_addSign cX8_addSign 2 none, Cond.methodLink RX6 59 yX6_readGap, Cond.instanceMethod yX6_readGap, Cond.selects RX6 yX6_readGap yX6_readGap]
def wsL_law_r16 : List Cond := [Cond.code yX6_readGap cX6_readGap 2 none, Cond.methodLink RX6 64 yX6_readPost, Cond.instanceMethod yX6_readPost, Cond.selects RX6 yX6_readPost yX6_readPost, Cond.code yX6_readPost cX6_readPost 3 none, Cond.methodLink RX6 111 yX8_postCount, Cond.instanceMethod yX8_postCount, Cond.selects RX8 yX8_postCount yX8_postCount, Cond.code yX8_postCount cX8_postCount 1 (some .int), Cond.methodLink RX6 116 yX8_addPost, Cond.instanceMethod yX8_addPost, Cond.selects RX8 yX8_addPost yX8_addPost, Cond.code yX8_addPost cX8_addPost 2 none, Cond.methodLink RX6 71 yX8_addLine, Cond.instanceMethod yX8_addLine, Cond.selects RX8 yX8_addLine yX8_addLine, Cond.code yX8_addLine cX8_addLine 1 none, Cond.methodLink RX11 112 yX6_faultKind, Cond.instanceMethod yX6_faultKind, Cond.selects RX6 yX6_faultKind yX6_faultKind, Cond.code yX6_faultKind cX6_faultKind 1 (some .int), Cond.methodLink RX11 115 yX6_draft, Cond.instanceMethod yX6_draft, Cond.selects RX6 yX6_draft yX6_draft]
def wsL_law_r17 : List Cond := [Cond.code yX6_draft cX6_draft 1 (some (.object "IntervalSignal$Station")), Cond.methodLink RX11 119 yX8_copyFrom, Cond.instanceMethod yX8_copyFrom, Cond.selects RX8 yX8_copyFrom yX8_copyFrom, Cond.code yX8_copyFrom cX8_copyFrom 2 none, Cond.methodLink RX8 63 arraycopyName, Cond.native arraycopyName, Cond.static arraycopyName, Cond.initialized "java/lang/System", Cond.methodLink RX8 69 yX0_copyFrom, Cond.instanceMethod yX0_copyFrom, Cond.selects RX0 yX0_copyFrom yX0_copyFrom, Cond.code yX0_copyFrom cX0_copyFrom 2 none, Cond.methodLink RX0 39 arraycopyName, Cond.methodLink RX11 123 yX8_lines, Cond.methodLink RL 27 yX12_station, Cond.instanceMethod yX12_station, Cond.selects RX12 yX12_station yX12_station, Cond.code yX12_station cX12_station 2 (some .int), Cond.fieldLink RX12 112 "IntervalSignalModel" "size" "I", Cond.fieldLink RX12 115 "IntervalSignalModel" "at" "I", Cond.fieldLink RX12 145 "IntervalSignalModel" "faultKind" "I", Cond.fieldLink RX12 124 "IntervalSignalModel" "token" "I", Cond.methodLink RX12 165 yX12_advance]
def wsL_law_r18 : List Cond := [Cond.instanceMethod yX12_advance, Cond.selects RX12 yX12_advance yX12_advance, Cond.code yX12_advance cX12_advance 2 none, Cond.fieldLink RX12 121 "IntervalSignalModel" "from" "I", Cond.constantLong RX12 127 (97), Cond.constantLong RX12 129 (122), Cond.constantLong RX12 131 (48), Cond.constantLong RX12 133 (57), Cond.fieldLink RX12 135 "IntervalSignalModel" "value" "I", Cond.constant RX12 138 (99999), Cond.methodLink RX12 139 Lib.Math.min.name, Cond.static Lib.Math.min.name, Cond.initialized "java/lang/Math", Cond.code Lib.Math.min.name Lib.Math.min.code 2 (some .int), Cond.methodLink RX12 118 yX12_see, Cond.instanceMethod yX12_see, Cond.selects RX12 yX12_see yX12_see, Cond.code yX12_see cX12_see 2 (some .int), Cond.methodLink RX12 148 yX12_good, Cond.instanceMethod yX12_good, Cond.selects RX12 yX12_good yX12_good, Cond.code yX12_good cX12_good 1 (some .boolean), Cond.methodLink RX12 213 yX12_readLine, Cond.instanceMethod yX12_readLine]
def wsL_law_r19 : List Cond := [Cond.selects RX12 yX12_readLine yX12_readLine, Cond.code yX12_readLine cX12_readLine 1 none, Cond.methodLink RX12 207 yX12_readFirst, Cond.instanceMethod yX12_readFirst, Cond.selects RX12 yX12_readFirst yX12_readFirst, Cond.code yX12_readFirst cX12_readFirst 1 none, Cond.methodLink RX12 175 yX12_needs, Cond.instanceMethod yX12_needs, Cond.selects RX12 yX12_needs yX12_needs, Cond.code yX12_needs cX12_needs 2 none, Cond.methodLink RX12 168 yX12_takes, Cond.instanceMethod yX12_takes, Cond.selects RX12 yX12_takes yX12_takes, Cond.code yX12_takes cX12_takes 3 (some .boolean), Cond.methodLink RX12 161 yX12_is, Cond.instanceMethod yX12_is, Cond.selects RX12 yX12_is yX12_is, Cond.code yX12_is cX12_is 4 (some .boolean), Cond.methodLink RX12 151 yJ0_length_8abf5, Cond.methodLink RX12 157 yJ0_charAt_5068e, Cond.methodLink RX12 171 yX12_errs, Cond.instanceMethod yX12_errs, Cond.selects RX12 yX12_errs yX12_errs, Cond.code yX12_errs cX12_errs 2 none]
def wsL_law_r20 : List Cond := [Cond.methodLink RX12 186 yX12_told, Cond.instanceMethod yX12_told, Cond.selects RX12 yX12_told yX12_told, Cond.code yX12_told cX12_told 4 (some .int), Cond.methodLink RX12 179 yX12_number, Cond.instanceMethod yX12_number, Cond.selects RX12 yX12_number yX12_number, Cond.code yX12_number cX12_number 4 (some .int), Cond.methodLink RX12 210 yX12_readNext, Cond.instanceMethod yX12_readNext, Cond.selects RX12 yX12_readNext yX12_readNext, Cond.code yX12_readNext cX12_readNext 2 none, Cond.methodLink RL 28 yX11_fault, Cond.instanceMethod yX11_fault, Cond.selects RX11 yX11_fault yX11_fault, Cond.code yX11_fault cX11_fault 2 (some .int), Cond.methodLink RX11 126 yX6_faultPlace, Cond.instanceMethod yX6_faultPlace, Cond.selects RX6 yX6_faultPlace yX6_faultPlace, Cond.code yX6_faultPlace cX6_faultPlace 1 (some .int), Cond.methodLink RL 31 yX12_fault, Cond.instanceMethod yX12_fault, Cond.selects RX12 yX12_fault yX12_fault, Cond.code yX12_fault cX12_fault 2 (some .int)]
def wsL_law_r21 : List Cond := [Cond.methodLink RL 32 yX11_sign, Cond.instanceMethod yX11_sign, Cond.selects RX11 yX11_sign yX11_sign, Cond.code yX11_sign cX11_sign 2 (some .int), Cond.methodLink RX11 129 yX8_signCount, Cond.methodLink RX11 132 yX8_signTold, Cond.instanceMethod yX8_signTold, Cond.selects RX8 yX8_signTold yX8_signTold, Cond.code yX8_signTold cX8_signTold 2 (some .int), Cond.methodLink RL 35 yX12_sign, Cond.instanceMethod yX12_sign, Cond.selects RX12 yX12_sign yX12_sign, Cond.code yX12_sign cX12_sign 2 (some .int), Cond.methodLink RL 36 yX11_post, Cond.instanceMethod yX11_post, Cond.selects RX11 yX11_post yX11_post, Cond.code yX11_post cX11_post 2 (some .int), Cond.methodLink RX11 136 yX8_postCount, Cond.methodLink RX11 139 yX8_postPlace, Cond.instanceMethod yX8_postPlace, Cond.selects RX8 yX8_postPlace yX8_postPlace, Cond.code yX8_postPlace cX8_postPlace 2 (some .int), Cond.methodLink RL 39 yX12_post, Cond.instanceMethod yX12_post]
def wsL_law_r22 : List Cond := [Cond.selects RX12 yX12_post yX12_post, Cond.code yX12_post cX12_post 2 (some .int), Cond.methodLink RL 40 yX11_heard, Cond.instanceMethod yX11_heard, Cond.selects RX11 yX11_heard yX11_heard, Cond.code yX11_heard cX11_heard 2 (some .int), Cond.methodLink RX11 142 yX11_noStep, Cond.instanceMethod yX11_noStep, Cond.selects RX11 yX11_noStep yX11_noStep, Cond.code yX11_noStep cX11_noStep 2 (some .boolean), Cond.constantLong RX11 202 (60), Cond.methodLink RX11 165 yX11_noStation, Cond.instanceMethod yX11_noStation, Cond.selects RX11 yX11_noStation yX11_noStation, Cond.code yX11_noStation cX11_noStation 1 (some .boolean), Cond.methodLink RX11 146 yX11_tonight, Cond.instanceMethod yX11_tonight, Cond.selects RX11 yX11_tonight yX11_tonight, Cond.code yX11_tonight cX11_tonight 1 (some (.object "IntervalSignal$Night")), Cond.methodLink RX11 239 yX4_hear, Cond.instanceMethod yX4_hear, Cond.selects RX4 yX4_hear yX4_hear, Cond.code yX4_hear cX4_hear 8 none, Cond.methodLink RX4 25 yX8_toneHeard]
def wsL_law_r23 : List Cond := [Cond.instanceMethod yX8_toneHeard, Cond.selects RX8 yX8_toneHeard yX8_toneHeard, Cond.code yX8_toneHeard cX8_toneHeard 5 (some .int), Cond.methodLink RX8 89 yX0_overStep, Cond.instanceMethod yX0_overStep, Cond.selects RX0 yX0_overStep yX0_overStep, Cond.code yX0_overStep cX0_overStep 2 (some .int), Cond.methodLink RX8 92 yX8_ownTone, Cond.instanceMethod yX8_ownTone, Cond.selects RX8 yX8_ownTone yX8_ownTone, Cond.code yX8_ownTone cX8_ownTone 6 (some .int), Cond.methodLink RX4 31 yX8_isGap, Cond.instanceMethod yX8_isGap, Cond.selects RX8 yX8_isGap yX8_isGap, Cond.code yX8_isGap cX8_isGap 2 (some .boolean), Cond.methodLink RX11 150 yX4_heardAt, Cond.instanceMethod yX4_heardAt, Cond.selects RX4 yX4_heardAt yX4_heardAt, Cond.code yX4_heardAt cX4_heardAt 2 (some .int), Cond.methodLink RL 43 yX12_heard, Cond.instanceMethod yX12_heard, Cond.selects RX12 yX12_heard yX12_heard, Cond.code yX12_heard cX12_heard 2 (some .int), Cond.methodLink RX12 279 yX12_asksStep]
def wsL_law_r24 : List Cond := [Cond.instanceMethod yX12_asksStep, Cond.selects RX12 yX12_asksStep yX12_asksStep, Cond.code yX12_asksStep cX12_asksStep 2 (some .boolean), Cond.methodLink RX12 269 yX12_asksStation, Cond.instanceMethod yX12_asksStation, Cond.selects RX12 yX12_asksStation yX12_asksStation, Cond.code yX12_asksStation cX12_asksStation 1 (some .boolean), Cond.methodLink RX12 260 yX12_asItIs, Cond.instanceMethod yX12_asItIs, Cond.selects RX12 yX12_asItIs yX12_asItIs, Cond.code yX12_asItIs cX12_asItIs 2 none, Cond.methodLink RX12 229 yX12_silent0, Cond.instanceMethod yX12_silent0, Cond.selects RX12 yX12_silent0 yX12_silent0, Cond.code yX12_silent0 cX12_silent0 2 none, Cond.fieldLink RX12 216 "IntervalSignalModel" "lawA" "I", Cond.fieldLink RX12 219 "IntervalSignalModel" "lawB" "I", Cond.fieldLink RX12 222 "IntervalSignalModel" "lawC" "I", Cond.fieldLink RX12 225 "IntervalSignalModel" "isDrawn" "Z", Cond.methodLink RX12 263 yX12_isStation, Cond.instanceMethod yX12_isStation, Cond.selects RX12 yX12_isStation yX12_isStation, Cond.code yX12_isStation cX12_isStation 1 (some .boolean), Cond.methodLink RX12 266 yX12_goNight]
def wsL_law_r25 : List Cond := [Cond.instanceMethod yX12_goNight, Cond.selects RX12 yX12_goNight yX12_goNight, Cond.code yX12_goNight cX12_goNight 2 none, Cond.methodLink RX12 101 yX12_hasSigns, Cond.instanceMethod yX12_hasSigns, Cond.selects RX12 yX12_hasSigns yX12_hasSigns, Cond.code yX12_hasSigns cX12_hasSigns 1 (some .boolean), Cond.methodLink RX12 253 yX12_isLost, Cond.instanceMethod yX12_isLost, Cond.selects RX12 yX12_isLost yX12_isLost, Cond.code yX12_isLost cX12_isLost 3 (some .boolean), Cond.constantLong RX12 236 (1103515245), Cond.fieldLink RX12 238 "IntervalSignalModel" "drawX" "J", Cond.constantLong RX12 242 (12345), Cond.constantLong RX12 244 (2147483648), Cond.constantLong RX12 246 (65536), Cond.constantLong RX12 248 (10), Cond.fieldLink RX12 250 "IntervalSignalModel" "lostMany" "I", Cond.methodLink RX12 232 yX12_isGap, Cond.instanceMethod yX12_isGap, Cond.selects RX12 yX12_isGap yX12_isGap, Cond.code yX12_isGap cX12_isGap 2 (some .boolean), Cond.methodLink RX12 105 yX12_signAt, Cond.instanceMethod yX12_signAt]
def wsL_law_r26 : List Cond := [Cond.selects RX12 yX12_signAt yX12_signAt, Cond.code yX12_signAt cX12_signAt 2 (some .int), Cond.methodLink RX12 256 yX12_toneOf, Cond.instanceMethod yX12_toneOf, Cond.selects RX12 yX12_toneOf yX12_toneOf, Cond.code yX12_toneOf cX12_toneOf 5 (some .int), Cond.methodLink RX12 272 yX12_isStep, Cond.static yX12_isStep, Cond.code yX12_isStep cX12_isStep 2 (some .boolean), Cond.constantLong RX12 99 (60), Cond.methodLink RL 44 yX11_last, Cond.instanceMethod yX11_last, Cond.selects RX11 yX11_last yX11_last, Cond.code yX11_last cX11_last 2 (some .int), Cond.methodLink RX11 153 yX4_lastAhead, Cond.instanceMethod yX4_lastAhead, Cond.selects RX4 yX4_lastAhead yX4_lastAhead, Cond.code yX4_lastAhead cX4_lastAhead 2 (some .int), Cond.methodLink RL 47 yX12_last, Cond.instanceMethod yX12_last, Cond.selects RX12 yX12_last yX12_last, Cond.code yX12_last cX12_last 2 (some .int), Cond.methodLink RL 48 yX11_answer, Cond.instanceMethod yX11_answer]
def wsL_law_r27 : List Cond := [Cond.selects RX11 yX11_answer yX11_answer, Cond.code yX11_answer cX11_answer 2 (some .int), Cond.methodLink RX11 156 yX4_answerAhead, Cond.instanceMethod yX4_answerAhead, Cond.selects RX4 yX4_answerAhead yX4_answerAhead, Cond.code yX4_answerAhead cX4_answerAhead 2 (some .int), Cond.methodLink RL 51 yX12_answer, Cond.instanceMethod yX12_answer, Cond.selects RX12 yX12_answer yX12_answer, Cond.code yX12_answer cX12_answer 2 (some .int), Cond.methodLink RL 52 yX11_gaps, Cond.instanceMethod yX11_gaps, Cond.selects RX11 yX11_gaps yX11_gaps, Cond.code yX11_gaps cX11_gaps 4 (some .int), Cond.methodLink RX11 159 yX8_isGap, Cond.methodLink RL 55 yX12_gaps, Cond.instanceMethod yX12_gaps, Cond.selects RX12 yX12_gaps yX12_gaps, Cond.code yX12_gaps cX12_gaps 4 (some .int), Cond.methodLink RL 56 yX11_pips, Cond.instanceMethod yX11_pips, Cond.selects RX11 yX11_pips yX11_pips, Cond.code yX11_pips cX11_pips 2 (some .int), Cond.methodLink RX11 162 yX4_pipsTo]
def wsL_law_r28 : List Cond := [Cond.instanceMethod yX4_pipsTo, Cond.selects RX4 yX4_pipsTo yX4_pipsTo, Cond.code yX4_pipsTo cX4_pipsTo 4 (some .int), Cond.methodLink RL 59 yX12_pips, Cond.instanceMethod yX12_pips, Cond.selects RX12 yX12_pips yX12_pips, Cond.code yX12_pips cX12_pips 2 (some .int), Cond.methodLink RX12 282 yX12_pipsTo, Cond.instanceMethod yX12_pipsTo, Cond.selects RX12 yX12_pipsTo yX12_pipsTo, Cond.code yX12_pipsTo cX12_pipsTo 4 (some .int), Cond.methodLink RX12 276 yX12_isPip, Cond.instanceMethod yX12_isPip, Cond.selects RX12 yX12_isPip yX12_isPip, Cond.code yX12_isPip cX12_isPip 2 (some .boolean), Cond.methodLink RL 60 yX11_wed, Cond.instanceMethod yX11_wed, Cond.selects RX11 yX11_wed yX11_wed, Cond.code yX11_wed cX11_wed 1 (some .int), Cond.methodLink RX11 169 yX4_stepOfPip, Cond.instanceMethod yX4_stepOfPip, Cond.selects RX4 yX4_stepOfPip yX4_stepOfPip, Cond.code yX4_stepOfPip cX4_stepOfPip 4 (some .int), Cond.methodLink RL 63 yX12_wed]
def wsL_law_r29 : List Cond := [Cond.instanceMethod yX12_wed, Cond.selects RX12 yX12_wed yX12_wed, Cond.code yX12_wed cX12_wed 1 (some .int), Cond.methodLink RX12 285 yX12_firstPip, Cond.instanceMethod yX12_firstPip, Cond.selects RX12 yX12_firstPip yX12_firstPip, Cond.code yX12_firstPip cX12_firstPip 2 (some .int), Cond.methodLink RL 64 yX11_first, Cond.instanceMethod yX11_first, Cond.selects RX11 yX11_first yX11_first, Cond.code yX11_first cX11_first 2 (some .int), Cond.methodLink RX11 172 yX11_noTone, Cond.instanceMethod yX11_noTone, Cond.selects RX11 yX11_noTone yX11_noTone, Cond.code yX11_noTone cX11_noTone 2 (some .boolean), Cond.methodLink RX11 185 yX8_tones, Cond.methodLink RX11 175 yX4_firstStepOf, Cond.instanceMethod yX4_firstStepOf, Cond.selects RX4 yX4_firstStepOf yX4_firstStepOf, Cond.code yX4_firstStepOf cX4_firstStepOf 3 (some .int), Cond.methodLink RL 67 yX12_first, Cond.instanceMethod yX12_first, Cond.selects RX12 yX12_first yX12_first, Cond.code yX12_first cX12_first 3 (some .int)]
def wsL_law_r30 : List Cond := [Cond.methodLink RX12 288 yX12_isTone, Cond.instanceMethod yX12_isTone, Cond.selects RX12 yX12_isTone yX12_isTone, Cond.code yX12_isTone cX12_isTone 3 (some .boolean), Cond.methodLink RL 68 yX11_often, Cond.instanceMethod yX11_often, Cond.selects RX11 yX11_often yX11_often, Cond.code yX11_often cX11_often 3 (some .int), Cond.methodLink RX11 178 yX4_timesHeard, Cond.instanceMethod yX4_timesHeard, Cond.selects RX4 yX4_timesHeard yX4_timesHeard, Cond.code yX4_timesHeard cX4_timesHeard 5 (some .int), Cond.methodLink RL 72 yX12_often, Cond.instanceMethod yX12_often, Cond.selects RX12 yX12_often yX12_often, Cond.code yX12_often cX12_often 3 (some .int), Cond.methodLink RX12 291 yX12_oftenTo, Cond.instanceMethod yX12_oftenTo, Cond.selects RX12 yX12_oftenTo yX12_oftenTo, Cond.code yX12_oftenTo cX12_oftenTo 5 (some .int), Cond.methodLink RL 73 yX11_all, Cond.instanceMethod yX11_all, Cond.selects RX11 yX11_all yX11_all, Cond.code yX11_all cX11_all 2 (some .int)]
def wsL_law_r31 : List Cond := [Cond.methodLink RX11 182 yX4_tonesTo, Cond.instanceMethod yX4_tonesTo, Cond.selects RX4 yX4_tonesTo yX4_tonesTo, Cond.code yX4_tonesTo cX4_tonesTo 4 (some .int), Cond.methodLink RL 76 yX12_all, Cond.instanceMethod yX12_all, Cond.selects RX12 yX12_all yX12_all, Cond.code yX12_all cX12_all 2 (some .int), Cond.methodLink RX12 294 yX12_allTo, Cond.instanceMethod yX12_allTo, Cond.selects RX12 yX12_allTo yX12_allTo, Cond.code yX12_allTo cX12_allTo 4 (some .int), Cond.methodLink RL 77 yX11_most, Cond.instanceMethod yX11_most, Cond.selects RX11 yX11_most yX11_most, Cond.code yX11_most cX11_most 6 (some .int), Cond.methodLink RL 80 yX12_most, Cond.instanceMethod yX12_most, Cond.selects RX12 yX12_most yX12_most, Cond.code yX12_most cX12_most 5 (some .int), Cond.methodLink RL 81 yX11_held, Cond.instanceMethod yX11_held, Cond.selects RX11 yX11_held yX11_held, Cond.code yX11_held cX11_held 1 (some .int)]
def wsL_law_r32 : List Cond := [Cond.methodLink RX11 188 yX4_longestHeld, Cond.instanceMethod yX4_longestHeld, Cond.selects RX4 yX4_longestHeld yX4_longestHeld, Cond.code yX4_longestHeld cX4_longestHeld 4 (some .int), Cond.methodLink RX4 35 Lib.Math.max.name, Cond.static Lib.Math.max.name, Cond.code Lib.Math.max.name Lib.Math.max.code 2 (some .int), Cond.methodLink RL 84 yX12_held, Cond.instanceMethod yX12_held, Cond.selects RX12 yX12_held yX12_held, Cond.code yX12_held cX12_held 4 (some .int), Cond.methodLink RX12 300 Lib.Math.max.name, Cond.methodLink RL 85 yX11_rises, Cond.instanceMethod yX11_rises, Cond.selects RX11 yX11_rises yX11_rises, Cond.code yX11_rises cX11_rises 1 (some .int), Cond.methodLink RX11 191 yX4_pairsThatMove, Cond.instanceMethod yX4_pairsThatMove, Cond.selects RX4 yX4_pairsThatMove yX4_pairsThatMove, Cond.code yX4_pairsThatMove cX4_pairsThatMove 4 (some .int), Cond.methodLink RL 88 yX12_rises, Cond.instanceMethod yX12_rises, Cond.selects RX12 yX12_rises yX12_rises, Cond.code yX12_rises cX12_rises 3 (some .int)]
def wsL_law_r33 : List Cond := [Cond.methodLink RL 89 yX11_unlike, Cond.instanceMethod yX11_unlike, Cond.selects RX11 yX11_unlike yX11_unlike, Cond.code yX11_unlike cX11_unlike 2 (some .int), Cond.methodLink RX11 194 yJ6_bitCount_0f7a4, Cond.static yJ6_bitCount_0f7a4, Cond.initialized RJ6, Cond.code yJ6_bitCount_0f7a4 cJ6_bitCount_0f7a4 1 (some .int), Cond.constant RJ6 265 (1431655765), Cond.constant RJ6 266 (858993459), Cond.constant RJ6 267 (252645135), Cond.methodLink RL 92 yX12_unlike, Cond.instanceMethod yX12_unlike, Cond.selects RX12 yX12_unlike yX12_unlike, Cond.code yX12_unlike cX12_unlike 2 (some .int), Cond.methodLink RX12 297 yX12_bits, Cond.static yX12_bits, Cond.code yX12_bits cX12_bits 3 (some .int), Cond.methodLink RL 93 yX11_falls, Cond.instanceMethod yX11_falls, Cond.selects RX11 yX11_falls yX11_falls, Cond.code yX11_falls cX11_falls 1 (some .int), Cond.methodLink RL 96 yX12_falls, Cond.instanceMethod yX12_falls]
def wsL_law_r34 : List Cond := [Cond.selects RX12 yX12_falls yX12_falls, Cond.code yX12_falls cX12_falls 3 (some .int), Cond.methodLink RL 97 yX11_leap, Cond.instanceMethod yX11_leap, Cond.selects RX11 yX11_leap yX11_leap, Cond.code yX11_leap cX11_leap 1 (some .int), Cond.methodLink RX11 199 yX4_greatestLeap, Cond.instanceMethod yX4_greatestLeap, Cond.selects RX4 yX4_greatestLeap yX4_greatestLeap, Cond.code yX4_greatestLeap cX4_greatestLeap 3 (some .int), Cond.methodLink RX4 41 Lib.Math.abs.name, Cond.static Lib.Math.abs.name, Cond.code Lib.Math.abs.name Lib.Math.abs.code 1 (some .int), Cond.methodLink RL 100 yX12_leap, Cond.instanceMethod yX12_leap, Cond.selects RX12 yX12_leap yX12_leap, Cond.code yX12_leap cX12_leap 3 (some .int), Cond.methodLink RX12 303 Lib.Math.abs.name, Cond.methodLink RL 101 yX11_when, Cond.instanceMethod yX11_when, Cond.selects RX11 yX11_when yX11_when, Cond.code yX11_when cX11_when 2 (some .int), Cond.methodLink RL 104 yX12_when, Cond.instanceMethod yX12_when]
def wsL_law_r35 : List Cond := [Cond.selects RX12 yX12_when yX12_when, Cond.code yX12_when cX12_when 4 (some .int), Cond.methodLink RL 105 yX11_echo, Cond.instanceMethod yX11_echo, Cond.selects RX11 yX11_echo yX11_echo, Cond.code yX11_echo cX11_echo 2 (some .int), Cond.methodLink RX11 204 yX4_lastStepAlike, Cond.instanceMethod yX4_lastStepAlike, Cond.selects RX4 yX4_lastStepAlike yX4_lastStepAlike, Cond.code yX4_lastStepAlike cX4_lastStepAlike 4 (some .int), Cond.methodLink RX4 45 yX4_heardAt, Cond.methodLink RL 108 yX12_echo, Cond.instanceMethod yX12_echo, Cond.selects RX12 yX12_echo yX12_echo, Cond.code yX12_echo cX12_echo 3 (some .int), Cond.methodLink RL 109 yX11_shift, Cond.instanceMethod yX11_shift, Cond.selects RX11 yX11_shift yX11_shift, Cond.code yX11_shift cX11_shift 3 (some .int), Cond.methodLink RX11 220 yX11_unlikeSteps, Cond.instanceMethod yX11_unlikeSteps, Cond.selects RX11 yX11_unlikeSteps yX11_unlikeSteps, Cond.code yX11_unlikeSteps cX11_unlikeSteps 7 (some .int), Cond.methodLink RX11 223 yX11_nightWith]
def wsL_law_r36 : List Cond := [Cond.instanceMethod yX11_nightWith, Cond.selects RX11 yX11_nightWith yX11_nightWith, Cond.code yX11_nightWith cX11_nightWith 3 (some (.object "IntervalSignal$Night")), Cond.methodLink RX11 275 yX8_acts, Cond.instanceMethod yX8_acts, Cond.selects RX8 yX8_acts yX8_acts, Cond.code yX8_acts cX8_acts 1 (some (.object "IntervalSignal$Acts")), Cond.methodLink RX11 449 yX0_putOver, Cond.instanceMethod yX0_putOver, Cond.selects RX0 yX0_putOver yX0_putOver, Cond.code yX0_putOver cX0_putOver 3 none, Cond.methodLink RL 112 yX12_shift, Cond.instanceMethod yX12_shift, Cond.selects RX12 yX12_shift yX12_shift, Cond.code yX12_shift cX12_shift 3 (some .int), Cond.methodLink RX12 306 yX12_speaksBesides, Cond.instanceMethod yX12_speaksBesides, Cond.selects RX12 yX12_speaksBesides yX12_speaksBesides, Cond.code yX12_speaksBesides cX12_speaksBesides 4 (some .boolean), Cond.methodLink RX12 310 yX12_shifted, Cond.instanceMethod yX12_shifted, Cond.selects RX12 yX12_shifted yX12_shifted, Cond.code yX12_shifted cX12_shifted 3 (some .int), Cond.methodLink RL 113 yX11_heals]
def wsL_law_r37 : List Cond := [Cond.instanceMethod yX11_heals, Cond.selects RX11 yX11_heals yX11_heals, Cond.code yX11_heals cX11_heals 7 (some .int), Cond.methodLink RL 116 yX12_heals, Cond.instanceMethod yX12_heals, Cond.selects RX12 yX12_heals yX12_heals, Cond.code yX12_heals cX12_heals 4 (some .int), Cond.methodLink RL 117 yX11_worst, Cond.instanceMethod yX11_worst, Cond.selects RX11 yX11_worst yX11_worst, Cond.code yX11_worst cX11_worst 6 (some .int), Cond.methodLink RL 120 yX12_worst, Cond.instanceMethod yX12_worst, Cond.selects RX12 yX12_worst yX12_worst, Cond.code yX12_worst cX12_worst 5 (some .int), Cond.methodLink RL 121 yX11_pretty, Cond.instanceMethod yX11_pretty, Cond.selects RX11 yX11_pretty yX11_pretty, Cond.code yX11_pretty cX11_pretty 1 (some .int), Cond.methodLink RX11 227 yX3_searchPips, Cond.instanceMethod yX3_searchPips, Cond.selects RX3 yX3_searchPips yX3_searchPips, Cond.code yX3_searchPips cX3_searchPips 6 none, Cond.fieldLink RX3 29 "IntervalSignal$LawSearch" "prettiestLaw" "I"]
def wsL_law_r38 : List Cond := [Cond.fieldLink RX3 46 "IntervalSignal$LawSearch" "mostPips" "I", Cond.fieldLink RX3 33 "IntervalSignal$LawSearch" "withoutPip" "I", Cond.methodLink RX3 42 yX3_begin, Cond.instanceMethod yX3_begin, Cond.selects RX3 yX3_begin yX3_begin, Cond.code yX3_begin cX3_begin 2 none, Cond.methodLink RX3 93 yX8_copyFrom, Cond.methodLink RX3 96 yX8_acts, Cond.methodLink RX3 100 yX0_clear, Cond.methodLink RX3 49 yX8_tones, Cond.methodLink RX3 53 yX8_setLaw, Cond.methodLink RX3 57 yX3_notePips, Cond.instanceMethod yX3_notePips, Cond.selects RX3 yX3_notePips yX3_notePips, Cond.code yX3_notePips cX3_notePips 3 none, Cond.methodLink RX3 71 yX4_hear, Cond.methodLink RX3 105 yX4_pipsTo, Cond.methodLink RX11 230 yX3_prettiest, Cond.instanceMethod yX3_prettiest, Cond.selects RX3 yX3_prettiest yX3_prettiest, Cond.code yX3_prettiest cX3_prettiest 1 (some .int), Cond.methodLink RL 124 yX12_pretty, Cond.instanceMethod yX12_pretty, Cond.selects RX12 yX12_pretty yX12_pretty]
def wsL_law_r39 : List Cond := [Cond.code yX12_pretty cX12_pretty 5 (some .int), Cond.methodLink RX12 377 yX12_triples, Cond.instanceMethod yX12_triples, Cond.selects RX12 yX12_triples yX12_triples, Cond.code yX12_triples cX12_triples 1 (some .int), Cond.methodLink RX12 380 yX12_goLaw, Cond.instanceMethod yX12_goLaw, Cond.selects RX12 yX12_goLaw yX12_goLaw, Cond.code yX12_goLaw cX12_goLaw 3 none, Cond.methodLink RL 125 yX11_silent, Cond.instanceMethod yX11_silent, Cond.selects RX11 yX11_silent yX11_silent, Cond.code yX11_silent cX11_silent 1 (some .int), Cond.methodLink RX11 233 yX3_silentLaws, Cond.instanceMethod yX3_silentLaws, Cond.selects RX3 yX3_silentLaws yX3_silentLaws, Cond.code yX3_silentLaws cX3_silentLaws 1 (some .int), Cond.methodLink RL 128 yX12_silent, Cond.instanceMethod yX12_silent, Cond.selects RX12 yX12_silent yX12_silent, Cond.code yX12_silent cX12_silent 3 (some .int), Cond.methodLink RL 129 yX11_tuned, Cond.instanceMethod yX11_tuned, Cond.selects RX11 yX11_tuned yX11_tuned]
def wsL_law_r40 : List Cond := [Cond.code yX11_tuned cX11_tuned 5 (some .int), Cond.methodLink RX11 236 yX8_setC, Cond.instanceMethod yX8_setC, Cond.selects RX8 yX8_setC yX8_setC, Cond.code yX8_setC cX8_setC 2 none, Cond.methodLink RL 132 yX12_tuned, Cond.instanceMethod yX12_tuned, Cond.selects RX12 yX12_tuned yX12_tuned, Cond.code yX12_tuned cX12_tuned 4 (some .int), Cond.constant RX12 350 (1000000000), Cond.methodLink RL 133 yX11_reach, Cond.instanceMethod yX11_reach, Cond.selects RX11 yX11_reach yX11_reach, Cond.code yX11_reach cX11_reach 2 (some .int), Cond.methodLink RX11 260 yX11_noPlanStep, Cond.instanceMethod yX11_noPlanStep, Cond.selects RX11 yX11_noPlanStep yX11_noPlanStep, Cond.code yX11_noPlanStep cX11_noPlanStep 2 (some .boolean), Cond.constantLong RX11 439 (40), Cond.methodLink RX11 263 yX10_tonesReached, Cond.instanceMethod yX10_tonesReached, Cond.selects RX10 yX10_tonesReached yX10_tonesReached, Cond.code yX10_tonesReached cX10_tonesReached 6 (some .int), Cond.methodLink RX10 21 yX8_signCount]
def wsL_law_r41 : List Cond := [Cond.methodLink RX10 27 yX10_walkTo, Cond.instanceMethod yX10_walkTo, Cond.selects RX10 yX10_walkTo yX10_walkTo, Cond.code yX10_walkTo cX10_walkTo 5 none, Cond.methodLink RX10 60 yX10_start, Cond.instanceMethod yX10_start, Cond.selects RX10 yX10_start yX10_start, Cond.code yX10_start cX10_start 3 none, Cond.methodLink RX10 75 yJ7_fill_53178, Cond.methodLink RX10 38 yX10_state, Cond.static yX10_state, Cond.code yX10_state cX10_state 3 (some .int), Cond.methodLink RX10 64 yX10_walkOver, Cond.instanceMethod yX10_walkOver, Cond.selects RX10 yX10_walkOver yX10_walkOver, Cond.code yX10_walkOver cX10_walkOver 10 none, Cond.methodLink RX10 42 Lib.Math.min.name, Cond.methodLink RX10 47 yX8_isGap, Cond.methodLink RX10 31 yX8_tones, Cond.methodLink RX10 81 yX10_cheapest, Cond.static yX10_cheapest, Cond.code yX10_cheapest cX10_cheapest 7 (some .int), Cond.methodLink RX10 85 yX10_stateOf, Cond.static yX10_stateOf]
def wsL_law_r42 : List Cond := [Cond.code yX10_stateOf cX10_stateOf 3 (some .int), Cond.methodLink RX10 89 yX10_ownTone, Cond.static yX10_ownTone, Cond.code yX10_ownTone cX10_ownTone 5 (some .int), Cond.methodLink RX10 34 yX8_ownTone, Cond.methodLink RL 136 yX12_reach, Cond.instanceMethod yX12_reach, Cond.selects RX12 yX12_reach yX12_reach, Cond.code yX12_reach cX12_reach 4 (some .int), Cond.constantLong RX12 351 (40), Cond.methodLink RX12 360 yX12_fewestOf, Cond.instanceMethod yX12_fewestOf, Cond.selects RX12 yX12_fewestOf yX12_fewestOf, Cond.code yX12_fewestOf cX12_fewestOf 4 (some .int), Cond.methodLink RX12 353 yX12_layPlans, Cond.instanceMethod yX12_layPlans, Cond.selects RX12 yX12_layPlans yX12_layPlans, Cond.code yX12_layPlans cX12_layPlans 8 none, Cond.methodLink RX12 346 yX12_layState, Cond.instanceMethod yX12_layState, Cond.selects RX12 yX12_layState yX12_layState, Cond.code yX12_layState cX12_layState 8 none, Cond.methodLink RX12 342 yX12_thenBy, Cond.instanceMethod yX12_thenBy]
def wsL_law_r43 : List Cond := [Cond.selects RX12 yX12_thenBy yX12_thenBy, Cond.code yX12_thenBy cX12_thenBy 5 (some .int), Cond.methodLink RX12 339 yX12_planState, Cond.static yX12_planState, Cond.code yX12_planState cX12_planState 3 (some .int), Cond.methodLink RL 137 yX11_spread, Cond.instanceMethod yX11_spread, Cond.selects RX11 yX11_spread yX11_spread, Cond.code yX11_spread cX11_spread 6 (some .int), Cond.constantLong RX11 307 (99), Cond.methodLink RX11 312 Lib.Math.max.name, Cond.methodLink RX11 317 Lib.Math.min.name, Cond.methodLink RX11 309 yX8_wayToPost, Cond.instanceMethod yX8_wayToPost, Cond.selects RX8 yX8_wayToPost yX8_wayToPost, Cond.code yX8_wayToPost cX8_wayToPost 3 (some .int), Cond.methodLink RX8 77 Lib.Math.abs.name, Cond.methodLink RX8 73 yX8_postPlace, Cond.methodLink RL 140 yX12_spread, Cond.instanceMethod yX12_spread, Cond.selects RX12 yX12_spread yX12_spread, Cond.code yX12_spread cX12_spread 5 (some .int), Cond.constantLong RX12 410 (99), Cond.methodLink RX12 400 yX12_wayTo]
def wsL_law_r44 : List Cond := [Cond.instanceMethod yX12_wayTo, Cond.selects RX12 yX12_wayTo yX12_wayTo, Cond.code yX12_wayTo cX12_wayTo 3 (some .int), Cond.methodLink RL 141 yX11_blind, Cond.instanceMethod yX11_blind, Cond.selects RX11 yX11_blind yX11_blind, Cond.code yX11_blind cX11_blind 4 (some .int), Cond.methodLink RX11 320 yX8_soundsAlikeFrom, Cond.instanceMethod yX8_soundsAlikeFrom, Cond.selects RX8 yX8_soundsAlikeFrom yX8_soundsAlikeFrom, Cond.code yX8_soundsAlikeFrom cX8_soundsAlikeFrom 6 (some .boolean), Cond.methodLink RX8 82 yX8_wayToPost, Cond.methodLink RL 144 yX12_blind, Cond.instanceMethod yX12_blind, Cond.selects RX12 yX12_blind yX12_blind, Cond.code yX12_blind cX12_blind 6 (some .int), Cond.methodLink RL 145 yX11_settles, Cond.instanceMethod yX11_settles, Cond.selects RX11 yX11_settles yX11_settles, Cond.code yX11_settles cX11_settles 1 (some .int), Cond.methodLink RX11 243 yX1_goRound, Cond.instanceMethod yX1_goRound, Cond.selects RX1 yX1_goRound yX1_goRound, Cond.code yX1_goRound cX1_goRound 7 none]
def wsL_law_r45 : List Cond := [Cond.methodLink RX1 29 yX8_signCount, Cond.methodLink RX1 35 yJ7_fill_53178, Cond.methodLink RX1 41 yX8_signNumber, Cond.instanceMethod yX8_signNumber, Cond.selects RX8 yX8_signNumber yX8_signNumber, Cond.code yX8_signNumber cX8_signNumber 2 (some .int), Cond.methodLink RX1 45 yX8_isGap, Cond.methodLink RX1 49 yX8_ownTone, Cond.methodLink RX11 246 yX1_from, Cond.instanceMethod yX1_from, Cond.selects RX1 yX1_from yX1_from, Cond.code yX1_from cX1_from 1 (some .int), Cond.methodLink RL 148 yX12_settles, Cond.instanceMethod yX12_settles, Cond.selects RX12 yX12_settles yX12_settles, Cond.code yX12_settles cX12_settles 1 (some .int), Cond.fieldLink RX12 328 "IntervalSignalModel" "roundFrom" "I", Cond.methodLink RX12 334 yX12_layRound, Cond.instanceMethod yX12_layRound, Cond.selects RX12 yX12_layRound yX12_layRound, Cond.code yX12_layRound cX12_layRound 2 none, Cond.fieldLink RX12 313 "IntervalSignalModel" "goLast" "I", Cond.fieldLink RX12 316 "IntervalSignalModel" "goAnswer" "I", Cond.fieldLink RX12 331 "IntervalSignalModel" "roundTo" "I"]
def wsL_law_r46 : List Cond := [Cond.methodLink RX12 322 yX12_stateOf, Cond.instanceMethod yX12_stateOf, Cond.selects RX12 yX12_stateOf yX12_stateOf, Cond.code yX12_stateOf cX12_stateOf 4 (some .int), Cond.methodLink RX12 325 yX12_goOne, Cond.instanceMethod yX12_goOne, Cond.selects RX12 yX12_goOne yX12_goOne, Cond.code yX12_goOne cX12_goOne 2 none, Cond.fieldLink RX12 319 "IntervalSignalModel" "goHeard" "I", Cond.methodLink RL 149 yX11_round, Cond.instanceMethod yX11_round, Cond.selects RX11 yX11_round yX11_round, Cond.code yX11_round cX11_round 1 (some .int), Cond.methodLink RX11 249 yX1_steps, Cond.instanceMethod yX1_steps, Cond.selects RX1 yX1_steps yX1_steps, Cond.code yX1_steps cX1_steps 1 (some .int), Cond.methodLink RL 152 yX12_round, Cond.instanceMethod yX12_round, Cond.selects RX12 yX12_round yX12_round, Cond.code yX12_round cX12_round 1 (some .int), Cond.methodLink RL 153 yX11_births, Cond.instanceMethod yX11_births, Cond.selects RX11 yX11_births yX11_births]
def wsL_law_r47 : List Cond := [Cond.code yX11_births cX11_births 1 (some .int), Cond.methodLink RX11 252 yX1_pipsInside, Cond.instanceMethod yX1_pipsInside, Cond.selects RX1 yX1_pipsInside yX1_pipsInside, Cond.code yX1_pipsInside cX1_pipsInside 3 (some .int), Cond.methodLink RL 156 yX12_births, Cond.instanceMethod yX12_births, Cond.selects RX12 yX12_births yX12_births, Cond.code yX12_births cX12_births 4 (some .int), Cond.methodLink RL 157 yX11_far, Cond.instanceMethod yX11_far, Cond.selects RX11 yX11_far yX11_far, Cond.code yX11_far cX11_far 2 (some .int), Cond.constantLong RX11 255 (2000000000), Cond.methodLink RX11 257 yX1_toneAt, Cond.instanceMethod yX1_toneAt, Cond.selects RX1 yX1_toneAt yX1_toneAt, Cond.code yX1_toneAt cX1_toneAt 4 (some .int), Cond.methodLink RX1 53 yX1_steps, Cond.methodLink RL 160 yX12_far, Cond.instanceMethod yX12_far, Cond.selects RX12 yX12_far yX12_far, Cond.code yX12_far cX12_far 4 (some .int), Cond.constantLong RX12 337 (2000000000)]
def wsL_law_r48 : List Cond := [Cond.methodLink RL 161 yX11_needs, Cond.instanceMethod yX11_needs, Cond.selects RX11 yX11_needs yX11_needs, Cond.code yX11_needs cX11_needs 3 (some .int), Cond.methodLink RX11 267 yX10_fewestTo, Cond.instanceMethod yX10_fewestTo, Cond.selects RX10 yX10_fewestTo yX10_fewestTo, Cond.code yX10_fewestTo cX10_fewestTo 8 (some .int), Cond.methodLink RL 164 yX12_needs_, Cond.instanceMethod yX12_needs_, Cond.selects RX12 yX12_needs_ yX12_needs_, Cond.code yX12_needs_ cX12_needs_ 3 (some .int), Cond.methodLink RX12 357 yX12_isPlan, Cond.instanceMethod yX12_isPlan, Cond.selects RX12 yX12_isPlan yX12_isPlan, Cond.code yX12_isPlan cX12_isPlan 3 (some .boolean), Cond.methodLink RL 165 yX11_plan, Cond.instanceMethod yX11_plan, Cond.selects RX11 yX11_plan yX11_plan, Cond.code yX11_plan cX11_plan 4 (some .int), Cond.methodLink RX11 271 yX10_spokenByPlan, Cond.instanceMethod yX10_spokenByPlan, Cond.selects RX10 yX10_spokenByPlan yX10_spokenByPlan, Cond.code yX10_spokenByPlan cX10_spokenByPlan 11 (some .int)]
def wsL_law_r49 : List Cond := [Cond.methodLink RX10 67 yX10_countMissing, Cond.instanceMethod yX10_countMissing, Cond.selects RX10 yX10_countMissing yX10_countMissing, Cond.code yX10_countMissing cX10_countMissing 7 none, Cond.methodLink RX10 92 yX10_missingAt, Cond.static yX10_missingAt, Cond.code yX10_missingAt cX10_missingAt 1 (some .int), Cond.methodLink RX10 99 Lib.Math.max.name, Cond.methodLink RX10 95 yX10_countMissingAhead, Cond.instanceMethod yX10_countMissingAhead, Cond.selects RX10 yX10_countMissingAhead yX10_countMissingAhead, Cond.code yX10_countMissingAhead cX10_countMissingAhead 11 none, Cond.methodLink RX10 71 yX10_firstWord, Cond.instanceMethod yX10_firstWord, Cond.selects RX10 yX10_firstWord yX10_firstWord, Cond.code yX10_firstWord cX10_firstWord 10 (some .int), Cond.methodLink RL 169 yX12_plan, Cond.instanceMethod yX12_plan, Cond.selects RX12 yX12_plan yX12_plan, Cond.code yX12_plan cX12_plan 10 (some .int), Cond.methodLink RL 170 yX11_quietly, Cond.instanceMethod yX11_quietly, Cond.selects RX11 yX11_quietly yX11_quietly, Cond.code yX11_quietly cX11_quietly 3 (some .int)]
def wsL_law_r50 : List Cond := [Cond.methodLink RL 173 yX12_quietly, Cond.instanceMethod yX12_quietly, Cond.selects RX12 yX12_quietly yX12_quietly, Cond.code yX12_quietly cX12_quietly 3 (some .int), Cond.methodLink RL 174 yX11_sooner, Cond.instanceMethod yX11_sooner, Cond.selects RX11 yX11_sooner yX11_sooner, Cond.code yX11_sooner cX11_sooner 3 (some .int), Cond.methodLink RL 177 yX12_sooner, Cond.instanceMethod yX12_sooner, Cond.selects RX12 yX12_sooner yX12_sooner, Cond.code yX12_sooner cX12_sooner 3 (some .int), Cond.methodLink RL 178 yX11_mend, Cond.instanceMethod yX11_mend, Cond.selects RX11 yX11_mend yX11_mend, Cond.code yX11_mend cX11_mend 3 (some .int), Cond.methodLink RX11 279 yX0_clear, Cond.methodLink RX11 284 yX10_fewestToMend, Cond.instanceMethod yX10_fewestToMend, Cond.selects RX10 yX10_fewestToMend yX10_fewestToMend, Cond.code yX10_fewestToMend cX10_fewestToMend 11 (some .int), Cond.methodLink RX10 51 yX4_lastAhead, Cond.methodLink RX10 57 yX4_answerAhead, Cond.methodLink RL 181 yX12_mend]
def wsL_law_r51 : List Cond := [Cond.instanceMethod yX12_mend, Cond.selects RX12 yX12_mend yX12_mend, Cond.code yX12_mend cX12_mend 6 (some .int), Cond.methodLink RX12 364 yX12_mendStep, Cond.instanceMethod yX12_mendStep, Cond.selects RX12 yX12_mendStep yX12_mendStep, Cond.code yX12_mendStep cX12_mendStep 9 none, Cond.methodLink RL 182 yX11_laws, Cond.instanceMethod yX11_laws, Cond.selects RX11 yX11_laws yX11_laws, Cond.code yX11_laws cX11_laws 3 (some .int), Cond.methodLink RX11 288 yX11_lawTrouble, Cond.instanceMethod yX11_lawTrouble, Cond.selects RX11 yX11_lawTrouble yX11_lawTrouble, Cond.code yX11_lawTrouble cX11_lawTrouble 2 (some .int), Cond.methodLink RX11 441 yX11_pairTrouble, Cond.instanceMethod yX11_pairTrouble, Cond.selects RX11 yX11_pairTrouble yX11_pairTrouble, Cond.code yX11_pairTrouble cX11_pairTrouble 6 (some .int), Cond.methodLink RX11 417 yX11_noSlot, Cond.static yX11_noSlot, Cond.code yX11_noSlot cX11_noSlot 1 (some .boolean), Cond.constantLong RX11 348 (3), Cond.methodLink RX11 423 yX7_hasRow]
def wsL_law_r52 : List Cond := [Cond.instanceMethod yX7_hasRow, Cond.selects RX7 yX7_hasRow yX7_hasRow, Cond.code yX7_hasRow cX7_hasRow 1 (some .boolean), Cond.fieldLink RX7 15 "IntervalSignal$Slot" "made" "Z", Cond.methodLink RX11 337 yX7_size, Cond.instanceMethod yX7_size, Cond.selects RX7 yX7_size yX7_size, Cond.code yX7_size cX7_size 1 (some .int), Cond.fieldLink RX7 23 "IntervalSignal$Slot" "size" "I", Cond.methodLink RX11 445 yX7_at, Cond.instanceMethod yX7_at, Cond.selects RX7 yX7_at yX7_at, Cond.code yX7_at cX7_at 2 (some .long), Cond.methodLink RX11 291 yX3_searchFitting, Cond.instanceMethod yX3_searchFitting, Cond.selects RX3 yX3_searchFitting yX3_searchFitting, Cond.code yX3_searchFitting cX3_searchFitting 9 none, Cond.fieldLink RX3 36 "IntervalSignal$LawSearch" "found" "I", Cond.fieldLink RX3 39 "IntervalSignal$LawSearch" "firstFound" "I", Cond.methodLink RX3 61 yJ7_fill_53178, Cond.methodLink RX3 67 yX3_lastStepSeen, Cond.static yX3_lastStepSeen, Cond.code yX3_lastStepSeen cX3_lastStepSeen 3 (some .int), Cond.methodLink RX3 87 Lib.Math.max.name]
def wsL_law_r53 : List Cond := [Cond.methodLink RX3 114 yX7_size, Cond.methodLink RX3 119 yX7_at, Cond.methodLink RX3 75 yX3_fits, Cond.instanceMethod yX3_fits, Cond.selects RX3 yX3_fits yX3_fits, Cond.code yX3_fits cX3_fits 3 (some .boolean), Cond.methodLink RX3 111 yX4_heardAt, Cond.methodLink RX3 79 yX3_noteFitting, Cond.instanceMethod yX3_noteFitting, Cond.selects RX3 yX3_noteFitting yX3_noteFitting, Cond.code yX3_noteFitting cX3_noteFitting 3 none, Cond.methodLink RX3 108 yX3_addToTally, Cond.instanceMethod yX3_addToTally, Cond.selects RX3 yX3_addToTally yX3_addToTally, Cond.code yX3_addToTally cX3_addToTally 3 none, Cond.methodLink RX11 295 yX3_howMany, Cond.instanceMethod yX3_howMany, Cond.selects RX3 yX3_howMany yX3_howMany, Cond.code yX3_howMany cX3_howMany 1 (some .int), Cond.methodLink RL 185 yX12_laws, Cond.instanceMethod yX12_laws, Cond.selects RX12 yX12_laws yX12_laws, Cond.code yX12_laws cX12_laws 3 (some .int), Cond.fieldLink RX12 374 "IntervalSignalModel" "lawMany" "I"]
def wsL_law_r54 : List Cond := [Cond.methodLink RX12 386 yX12_layLaws, Cond.instanceMethod yX12_layLaws, Cond.selects RX12 yX12_layLaws yX12_layLaws, Cond.code yX12_layLaws cX12_layLaws 4 (some .int), Cond.methodLink RX12 371 yX12_isSlot, Cond.static yX12_isSlot, Cond.code yX12_isSlot cX12_isSlot 1 (some .boolean), Cond.constantLong RX12 429 (3), Cond.methodLink RX12 367 yX12_numberAt, Cond.instanceMethod yX12_numberAt, Cond.selects RX12 yX12_numberAt yX12_numberAt, Cond.code yX12_numberAt cX12_numberAt 3 (some .long), Cond.methodLink RX12 383 yX12_fitsLaw, Cond.instanceMethod yX12_fitsLaw, Cond.selects RX12 yX12_fitsLaw yX12_fitsLaw, Cond.code yX12_fitsLaw cX12_fitsLaw 3 (some .boolean), Cond.methodLink RL 186 yX11_law, Cond.instanceMethod yX11_law, Cond.selects RX11 yX11_law yX11_law, Cond.code yX11_law cX11_law 3 (some .int), Cond.methodLink RX11 298 yX3_firstFitting, Cond.instanceMethod yX3_firstFitting, Cond.selects RX3 yX3_firstFitting yX3_firstFitting, Cond.code yX3_firstFitting cX3_firstFitting 1 (some .int)]
def wsL_law_r55 : List Cond := [Cond.methodLink RL 189 yX12_law, Cond.instanceMethod yX12_law, Cond.selects RX12 yX12_law yX12_law, Cond.code yX12_law cX12_law 3 (some .int), Cond.methodLink RL 190 yX11_ask, Cond.instanceMethod yX11_ask, Cond.selects RX11 yX11_ask yX11_ask, Cond.code yX11_ask cX11_ask 3 (some .int), Cond.methodLink RX11 301 yX3_stepToAsk, Cond.instanceMethod yX3_stepToAsk, Cond.selects RX3 yX3_stepToAsk yX3_stepToAsk, Cond.code yX3_stepToAsk cX3_stepToAsk 5 (some .int), Cond.methodLink RX3 83 yX3_leftAtWorst, Cond.instanceMethod yX3_leftAtWorst, Cond.selects RX3 yX3_leftAtWorst yX3_leftAtWorst, Cond.code yX3_leftAtWorst cX3_leftAtWorst 4 (some .int), Cond.methodLink RL 193 yX12_ask, Cond.instanceMethod yX12_ask, Cond.selects RX12 yX12_ask yX12_ask, Cond.code yX12_ask cX12_ask 3 (some .int), Cond.methodLink RX12 392 yX12_askOf, Cond.instanceMethod yX12_askOf, Cond.selects RX12 yX12_askOf yX12_askOf, Cond.code yX12_askOf cX12_askOf 7 (some .int)]
def wsL_law_r56 : List Cond := [Cond.fieldLink RX12 389 "IntervalSignalModel" "askWorst" "I", Cond.methodLink RL 194 yX11_leaves, Cond.instanceMethod yX11_leaves, Cond.selects RX11 yX11_leaves yX11_leaves, Cond.code yX11_leaves cX11_leaves 3 (some .int), Cond.methodLink RX11 304 yX3_leftAtWorst, Cond.methodLink RL 197 yX12_leaves, Cond.instanceMethod yX12_leaves, Cond.selects RX12 yX12_leaves yX12_leaves, Cond.code yX12_leaves cX12_leaves 3 (some .int), Cond.methodLink RL 198 yX11_places, Cond.instanceMethod yX11_places, Cond.selects RX11 yX11_places yX11_places, Cond.code yX11_places cX11_places 3 (some .int), Cond.methodLink RX11 324 yX11_placeTrouble, Cond.instanceMethod yX11_placeTrouble, Cond.selects RX11 yX11_placeTrouble yX11_placeTrouble, Cond.code yX11_placeTrouble cX11_placeTrouble 2 (some .int), Cond.methodLink RX11 327 yX5_searchFitting, Cond.instanceMethod yX5_searchFitting, Cond.selects RX5 yX5_searchFitting yX5_searchFitting, Cond.code yX5_searchFitting cX5_searchFitting 4 none, Cond.fieldLink RX5 18 "IntervalSignal$PlaceSearch" "found" "I", Cond.fieldLink RX5 22 "IntervalSignal$PlaceSearch" "leastPlace" "I"]
def wsL_law_r57 : List Cond := [Cond.fieldLink RX5 25 "IntervalSignal$PlaceSearch" "greatestPlace" "I", Cond.methodLink RX5 28 yX5_minuteSent, Cond.static yX5_minuteSent, Cond.code yX5_minuteSent cX5_minuteSent 6 (some .int), Cond.methodLink RX5 36 yX7_size, Cond.methodLink RX5 42 yX7_at, Cond.methodLink RX5 46 yX8_wayToPost, Cond.methodLink RX11 330 yX5_howMany, Cond.instanceMethod yX5_howMany, Cond.selects RX5 yX5_howMany yX5_howMany, Cond.code yX5_howMany cX5_howMany 1 (some .int), Cond.methodLink RL 201 yX12_places, Cond.instanceMethod yX12_places, Cond.selects RX12 yX12_places yX12_places, Cond.code yX12_places cX12_places 3 (some .int), Cond.fieldLink RX12 397 "IntervalSignalModel" "placeMany" "I", Cond.methodLink RX12 403 yX12_layPlaces, Cond.instanceMethod yX12_layPlaces, Cond.selects RX12 yX12_layPlaces yX12_layPlaces, Cond.code yX12_layPlaces cX12_layPlaces 8 (some .int), Cond.constantLong RX12 395 (999), Cond.methodLink RL 202 yX11_place, Cond.instanceMethod yX11_place, Cond.selects RX11 yX11_place yX11_place]
def wsL_law_r58 : List Cond := [Cond.code yX11_place cX11_place 3 (some .int), Cond.methodLink RX11 331 yX5_least, Cond.instanceMethod yX5_least, Cond.selects RX5 yX5_least yX5_least, Cond.code yX5_least cX5_least 1 (some .int), Cond.methodLink RL 205 yX12_place, Cond.instanceMethod yX12_place, Cond.selects RX12 yX12_place yX12_place, Cond.code yX12_place cX12_place 3 (some .int), Cond.methodLink RL 206 yX11_farther, Cond.instanceMethod yX11_farther, Cond.selects RX11 yX11_farther yX11_farther, Cond.code yX11_farther cX11_farther 3 (some .int), Cond.methodLink RX11 334 yX5_greatest, Cond.instanceMethod yX5_greatest, Cond.selects RX5 yX5_greatest yX5_greatest, Cond.code yX5_greatest cX5_greatest 1 (some .int), Cond.methodLink RL 209 yX12_farther, Cond.instanceMethod yX12_farther, Cond.selects RX12 yX12_farther yX12_farther, Cond.code yX12_farther cX12_farther 3 (some .int), Cond.methodLink RL 210 yX11_set, Cond.instanceMethod yX11_set, Cond.selects RX11 yX11_set yX11_set]
def wsL_law_r59 : List Cond := [Cond.code yX11_set cX11_set 3 (some .int), Cond.methodLink RX11 338 yX5_whereToSet, Cond.instanceMethod yX5_whereToSet, Cond.selects RX5 yX5_whereToSet yX5_whereToSet, Cond.code yX5_whereToSet cX5_whereToSet 5 (some .int), Cond.methodLink RX5 32 yX5_leftAtWorst, Cond.instanceMethod yX5_leftAtWorst, Cond.selects RX5 yX5_leftAtWorst yX5_leftAtWorst, Cond.code yX5_leftAtWorst cX5_leftAtWorst 4 (some .int), Cond.methodLink RX5 58 Lib.Math.abs.name, Cond.methodLink RX5 66 Lib.Math.max.name, Cond.methodLink RX5 52 yJ7_fill_53178, Cond.methodLink RX5 63 yX5_countMinute, Cond.instanceMethod yX5_countMinute, Cond.selects RX5 yX5_countMinute yX5_countMinute, Cond.code yX5_countMinute cX5_countMinute 2 (some .int), Cond.methodLink RL 213 yX12_set, Cond.instanceMethod yX12_set, Cond.selects RX12 yX12_set yX12_set, Cond.code yX12_set cX12_set 10 (some .int), Cond.methodLink RX12 407 yX12_minuteOf, Cond.instanceMethod yX12_minuteOf, Cond.selects RX12 yX12_minuteOf yX12_minuteOf, Cond.code yX12_minuteOf cX12_minuteOf 3 (some .int)]
def wsL_law_r60 : List Cond := [Cond.methodLink RL 214 yX11_parents, Cond.instanceMethod yX11_parents, Cond.selects RX11 yX11_parents yX11_parents, Cond.code yX11_parents cX11_parents 5 (some .int), Cond.methodLink RX11 341 yX8_areParents, Cond.instanceMethod yX8_areParents, Cond.selects RX8 yX8_areParents yX8_areParents, Cond.code yX8_areParents cX8_areParents 6 (some .boolean), Cond.methodLink RX8 86 yX8_signTold, Cond.methodLink RL 217 yX12_parents, Cond.instanceMethod yX12_parents, Cond.selects RX12 yX12_parents yX12_parents, Cond.code yX12_parents cX12_parents 2 (some .int), Cond.methodLink RX12 415 yX12_layParents, Cond.instanceMethod yX12_layParents, Cond.selects RX12 yX12_layParents yX12_layParents, Cond.code yX12_layParents cX12_layParents 7 (some .int), Cond.fieldLink RX12 412 "IntervalSignalModel" "parentFirst" "I", Cond.methodLink RL 218 yX11_parent, Cond.instanceMethod yX11_parent, Cond.selects RX11 yX11_parent yX11_parent, Cond.code yX11_parent cX11_parent 4 (some .int), Cond.methodLink RL 221 yX12_parent, Cond.instanceMethod yX12_parent]
def wsL_law_r61 : List Cond := [Cond.selects RX12 yX12_parent yX12_parent, Cond.code yX12_parent cX12_parent 2 (some .int), Cond.methodLink RL 222 yX11_clock, Cond.instanceMethod yX11_clock, Cond.selects RX11 yX11_clock yX11_clock, Cond.code yX11_clock cX11_clock 6 (some .int), Cond.constantLong RX11 210 (999), Cond.constantLong RX11 212 (-50), Cond.constantLong RX11 214 (50), Cond.constant RX11 216 (-1000000), Cond.methodLink RX11 217 yX4_isPip, Cond.instanceMethod yX4_isPip, Cond.selects RX4 yX4_isPip yX4_isPip, Cond.code yX4_isPip cX4_isPip 2 (some .boolean), Cond.methodLink RL 225 yX12_clock, Cond.instanceMethod yX12_clock, Cond.selects RX12 yX12_clock yX12_clock, Cond.code yX12_clock cX12_clock 5 (some .int), Cond.constantLong RX12 418 (-50), Cond.constantLong RX12 420 (50), Cond.constant RX12 422 (-1000000), Cond.methodLink RL 226 yX11_cool, Cond.instanceMethod yX11_cool, Cond.selects RX11 yX11_cool yX11_cool]
def wsL_law_r62 : List Cond := [Cond.code yX11_cool cX11_cool 1 (some .int), Cond.methodLink RX11 207 yX4_longestWithoutPip, Cond.instanceMethod yX4_longestWithoutPip, Cond.selects RX4 yX4_longestWithoutPip yX4_longestWithoutPip, Cond.code yX4_longestWithoutPip cX4_longestWithoutPip 4 (some .int), Cond.methodLink RL 229 yX12_cool, Cond.instanceMethod yX12_cool, Cond.selects RX12 yX12_cool yX12_cool, Cond.code yX12_cool cX12_cool 4 (some .int), Cond.methodLink RL 230 yX11_rests, Cond.instanceMethod yX11_rests, Cond.selects RX11 yX11_rests yX11_rests, Cond.code yX11_rests cX11_rests 4 (some .int), Cond.methodLink RX11 345 yX11_noneBetter, Cond.static yX11_noneBetter, Cond.code yX11_noneBetter cX11_noneBetter 3 (some .boolean), Cond.methodLink RX11 350 yX11_reward, Cond.static yX11_reward, Cond.code yX11_reward cX11_reward 3 (some .int), Cond.methodLink RL 233 yX12_rests, Cond.instanceMethod yX12_rests, Cond.selects RX12 yX12_rests yX12_rests, Cond.code yX12_rests cX12_rests 3 (some .int), Cond.methodLink RX12 423 yX12_soundsBy]
def wsL_law_r63 : List Cond := [Cond.static yX12_soundsBy, Cond.code yX12_soundsBy cX12_soundsBy 2 (some .int), Cond.methodLink RX12 426 yX12_bestBy, Cond.static yX12_bestBy, Cond.code yX12_bestBy cX12_bestBy 3 (some .int), Cond.methodLink RL 234 yX11_sounds, Cond.instanceMethod yX11_sounds, Cond.selects RX11 yX11_sounds yX11_sounds, Cond.code yX11_sounds cX11_sounds 3 (some .int), Cond.methodLink RL 237 yX12_sounds, Cond.instanceMethod yX12_sounds, Cond.selects RX12 yX12_sounds yX12_sounds, Cond.code yX12_sounds cX12_sounds 3 (some .int), Cond.methodLink RL 238 yX11_best, Cond.instanceMethod yX11_best, Cond.selects RX11 yX11_best yX11_best, Cond.code yX11_best cX11_best 4 (some .int), Cond.methodLink RL 241 yX12_best, Cond.instanceMethod yX12_best, Cond.selects RX12 yX12_best yX12_best, Cond.code yX12_best cX12_best 2 (some .int), Cond.methodLink RL 242 yX11_chance, Cond.instanceMethod yX11_chance, Cond.selects RX11 yX11_chance yX11_chance]
def wsL_law_r64 : List Cond := [Cond.code yX11_chance cX11_chance 6 (some .long), Cond.constantLong RX11 353 (17), Cond.constantLong RX11 355 (-2), Cond.methodLink RX11 357 yX8_odds, Cond.instanceMethod yX8_odds, Cond.selects RX8 yX8_odds yX8_odds, Cond.code yX8_odds cX8_odds 1 (some .int), Cond.methodLink RX11 360 yX11_commonDivisor, Cond.static yX11_commonDivisor, Cond.code yX11_commonDivisor cX11_commonDivisor 3 (some .int), Cond.methodLink RX11 363 yX8_gapsAtRisk, Cond.instanceMethod yX8_gapsAtRisk, Cond.selects RX8 yX8_gapsAtRisk yX8_gapsAtRisk, Cond.code yX8_gapsAtRisk cX8_gapsAtRisk 4 (some .int), Cond.methodLink RX8 96 yX8_isGap, Cond.methodLink RX11 366 yX11_power, Cond.static yX11_power, Cond.code yX11_power cX11_power 5 (some .long), Cond.methodLink RL 246 yX12_chance, Cond.instanceMethod yX12_chance, Cond.selects RX12 yX12_chance yX12_chance, Cond.code yX12_chance cX12_chance 8 (some .long), Cond.constantLong RX12 431 (17), Cond.constantLong RX12 433 (-2)]
def wsL_law_r65 : List Cond := [Cond.methodLink RX12 435 yX12_mayLose, Cond.instanceMethod yX12_mayLose, Cond.selects RX12 yX12_mayLose yX12_mayLose, Cond.code yX12_mayLose cX12_mayLose 4 (some .int), Cond.methodLink RX12 438 yX12_power, Cond.static yX12_power, Cond.code yX12_power cX12_power 6 (some .long), Cond.methodLink RX12 442 yX12_divisor, Cond.static yX12_divisor, Cond.code yX12_divisor cX12_divisor 10 (some .long), Cond.methodLink RL 247 yX11_sure, Cond.instanceMethod yX11_sure, Cond.selects RX11 yX11_sure yX11_sure, Cond.code yX11_sure cX11_sure 3 (some .int), Cond.constantLong RX11 370 (100), Cond.methodLink RX11 372 yX11_chanceIsAtLeast, Cond.instanceMethod yX11_chanceIsAtLeast, Cond.selects RX11 yX11_chanceIsAtLeast yX11_chanceIsAtLeast, Cond.code yX11_chanceIsAtLeast cX11_chanceIsAtLeast 5 (some .boolean), Cond.methodLink RL 250 yX12_sure, Cond.instanceMethod yX12_sure, Cond.selects RX12 yX12_sure yX12_sure, Cond.code yX12_sure cX12_sure 3 (some .int), Cond.constantLong RX12 446 (100)]
def wsL_law_r66 : List Cond := [Cond.methodLink RX12 448 yX12_isSure, Cond.instanceMethod yX12_isSure, Cond.selects RX12 yX12_isSure yX12_isSure, Cond.code yX12_isSure cX12_isSure 6 (some .boolean), Cond.methodLink RL 251 yX11_speak, Cond.instanceMethod yX11_speak, Cond.selects RX11 yX11_speak yX11_speak, Cond.code yX11_speak cX11_speak 4 (some .int), Cond.methodLink RX11 392 yX0_size, Cond.instanceMethod yX0_size, Cond.selects RX0 yX0_size yX0_size, Cond.code yX0_size cX0_size 1 (some .int), Cond.methodLink RX11 393 yX0_overStep, Cond.methodLink RX11 396 yX0_add, Cond.instanceMethod yX0_add, Cond.selects RX0 yX0_add yX0_add, Cond.code yX0_add cX0_add 3 none, Cond.methodLink RX0 31 yX0_overStep, Cond.methodLink RX0 35 yX0_putOver, Cond.methodLink RL 254 yX12_speak, Cond.instanceMethod yX12_speak, Cond.selects RX12 yX12_speak yX12_speak, Cond.code yX12_speak cX12_speak 3 (some .int), Cond.methodLink RL 255 yX11_spoken]
def wsL_law_r67 : List Cond := [Cond.instanceMethod yX11_spoken, Cond.selects RX11 yX11_spoken yX11_spoken, Cond.code yX11_spoken cX11_spoken 2 (some .int), Cond.methodLink RL 258 yX12_spoken, Cond.instanceMethod yX12_spoken, Cond.selects RX12 yX12_spoken yX12_spoken, Cond.code yX12_spoken cX12_spoken 2 (some .int), Cond.methodLink RL 259 yX11_undo, Cond.instanceMethod yX11_undo, Cond.selects RX11 yX11_undo yX11_undo, Cond.code yX11_undo cX11_undo 1 (some .int), Cond.methodLink RX11 399 yX0_takeBack, Cond.instanceMethod yX0_takeBack, Cond.selects RX0 yX0_takeBack yX0_takeBack, Cond.code yX0_takeBack cX0_takeBack 1 none, Cond.methodLink RL 262 yX12_undo, Cond.instanceMethod yX12_undo, Cond.selects RX12 yX12_undo yX12_undo, Cond.code yX12_undo cX12_undo 1 (some .int), Cond.methodLink RL 263 yX11_anew, Cond.instanceMethod yX11_anew, Cond.selects RX11 yX11_anew yX11_anew, Cond.code yX11_anew cX11_anew 2 (some .int), Cond.methodLink RL 266 yX12_anew]
def wsL_law_r68 : List Cond := [Cond.instanceMethod yX12_anew, Cond.selects RX12 yX12_anew yX12_anew, Cond.code yX12_anew cX12_anew 2 (some .int), Cond.methodLink RL 267 yX11_drawn, Cond.instanceMethod yX11_drawn, Cond.selects RX11 yX11_drawn yX11_drawn, Cond.code yX11_drawn cX11_drawn 4 (some .int), Cond.constantLong RX11 375 (2), Cond.methodLink RX11 377 yX2_draw, Cond.instanceMethod yX2_draw, Cond.selects RX2 yX2_draw yX2_draw, Cond.code yX2_draw cX2_draw 6 none, Cond.fieldLink RX2 21 "IntervalSignal$DrawnNight" "x" "J", Cond.fieldLink RX2 9 "IntervalSignal$DrawnNight" "tone" "I", Cond.fieldLink RX2 15 "IntervalSignal$DrawnNight" "lost" "I", Cond.fieldLink RX2 18 "IntervalSignal$DrawnNight" "answer" "I", Cond.methodLink RX2 25 yX8_toneHeard, Cond.methodLink RX2 31 yX8_isGap, Cond.methodLink RX2 35 yX2_drawAnswer, Cond.instanceMethod yX2_drawAnswer, Cond.selects RX2 yX2_drawAnswer yX2_drawAnswer, Cond.code yX2_drawAnswer cX2_drawAnswer 3 none, Cond.methodLink RX2 39 yX8_acts, Cond.methodLink RX2 43 yX0_overStep]
def wsL_law_r69 : List Cond := [Cond.methodLink RX2 49 yX2_nextDraw, Cond.instanceMethod yX2_nextDraw, Cond.selects RX2 yX2_nextDraw yX2_nextDraw, Cond.code yX2_nextDraw cX2_nextDraw 1 (some .int), Cond.constantLong RX2 56 (1103515245), Cond.constantLong RX2 58 (12345), Cond.constantLong RX2 60 (2147483648), Cond.constantLong RX2 62 (65536), Cond.constantLong RX2 64 (10), Cond.methodLink RX2 53 yX8_odds, Cond.methodLink RX11 381 yX2_toneAtEnd, Cond.instanceMethod yX2_toneAtEnd, Cond.selects RX2 yX2_toneAtEnd yX2_toneAtEnd, Cond.code yX2_toneAtEnd cX2_toneAtEnd 1 (some .int), Cond.methodLink RX11 384 yX2_answersLost, Cond.instanceMethod yX2_answersLost, Cond.selects RX2 yX2_answersLost yX2_answersLost, Cond.code yX2_answersLost cX2_answersLost 1 (some .int), Cond.methodLink RX11 387 yX2_answerBehind, Cond.instanceMethod yX2_answerBehind, Cond.selects RX2 yX2_answerBehind yX2_answerBehind, Cond.code yX2_answerBehind cX2_answerBehind 1 (some .int), Cond.methodLink RL 270 yX12_drawn, Cond.instanceMethod yX12_drawn]
def wsL_law_r70 : List Cond := [Cond.selects RX12 yX12_drawn yX12_drawn, Cond.code yX12_drawn cX12_drawn 4 (some .int), Cond.constantLong RX12 93 (2), Cond.methodLink RX12 451 yX12_isSeed, Cond.static yX12_isSeed, Cond.code yX12_isSeed cX12_isSeed 1 (some .boolean), Cond.methodLink RX12 454 yX12_goDrawn, Cond.instanceMethod yX12_goDrawn, Cond.selects RX12 yX12_goDrawn yX12_goDrawn, Cond.code yX12_goDrawn cX12_goDrawn 5 none, Cond.methodLink RL 271 yX11_luck, Cond.instanceMethod yX11_luck, Cond.selects RX11 yX11_luck yX11_luck, Cond.code yX11_luck cX11_luck 7 (some .int), Cond.constantLong RX11 390 (20), Cond.methodLink RL 275 yX12_luck, Cond.instanceMethod yX12_luck, Cond.selects RX12 yX12_luck yX12_luck, Cond.code yX12_luck cX12_luck 7 (some .int), Cond.constantLong RX12 458 (20), Cond.methodLink RL 276 yX11_tune, Cond.instanceMethod yX11_tune, Cond.selects RX11 yX11_tune yX11_tune, Cond.code yX11_tune cX11_tune 3 (some .int)]
def wsL_law_r71 : List Cond := [Cond.methodLink RX11 402 yX8_c, Cond.instanceMethod yX8_c, Cond.selects RX8 yX8_c yX8_c, Cond.code yX8_c cX8_c 1 (some .int), Cond.methodLink RL 279 yX12_tune, Cond.instanceMethod yX12_tune, Cond.selects RX12 yX12_tune yX12_tune, Cond.code yX12_tune cX12_tune 3 (some .int), Cond.methodLink RL 280 yX11_count, Cond.instanceMethod yX11_count, Cond.selects RX11 yX11_count yX11_count, Cond.code yX11_count cX11_count 2 (some .int), Cond.methodLink RX11 405 yX8_a, Cond.instanceMethod yX8_a, Cond.selects RX8 yX8_a yX8_a, Cond.code yX8_a cX8_a 1 (some .int), Cond.methodLink RX11 408 yX8_b, Cond.instanceMethod yX8_b, Cond.selects RX8 yX8_b yX8_b, Cond.code yX8_b cX8_b 1 (some .int), Cond.methodLink RX11 411 yX8_d, Cond.instanceMethod yX8_d, Cond.selects RX8 yX8_d yX8_d, Cond.code yX8_d cX8_d 1 (some .int)]
def wsL_law_r72 : List Cond := [Cond.methodLink RX11 414 yX11_slotsWithRow, Cond.instanceMethod yX11_slotsWithRow, Cond.selects RX11 yX11_slotsWithRow yX11_slotsWithRow, Cond.code yX11_slotsWithRow cX11_slotsWithRow 3 (some .int), Cond.methodLink RL 283 yX12_count, Cond.instanceMethod yX12_count, Cond.selects RX12 yX12_count yX12_count, Cond.code yX12_count cX12_count 4 (some .int), Cond.constantLong RX12 460 (9), Cond.methodLink RL 284 yX11_image, Cond.instanceMethod yX11_image, Cond.selects RX11 yX11_image yX11_image, Cond.code yX11_image cX11_image 2 (some .int), Cond.methodLink RL 287 yX12_image, Cond.instanceMethod yX12_image, Cond.selects RX12 yX12_image yX12_image, Cond.code yX12_image cX12_image 3 (some .int), Cond.methodLink RL 288 yX11_back, Cond.instanceMethod yX11_back, Cond.selects RX11 yX11_back yX11_back, Cond.code yX11_back cX11_back 2 (some .int), Cond.methodLink RL 291 yX12_back, Cond.instanceMethod yX12_back, Cond.selects RX12 yX12_back yX12_back]
def wsL_law_r73 : List Cond := [Cond.code yX12_back cX12_back 3 (some .int), Cond.methodLink RL 292 yX11_row, Cond.instanceMethod yX11_row, Cond.selects RX11 yX11_row yX11_row, Cond.code yX11_row cX11_row 4 (some .int), Cond.methodLink RX11 420 yX7_make, Cond.instanceMethod yX7_make, Cond.selects RX7 yX7_make yX7_make, Cond.code yX7_make cX7_make 3 none, Cond.fieldLink RX7 19 "IntervalSignal$Slot" "width" "I", Cond.methodLink RX7 26 Lib.Math.min.name, Cond.methodLink RX7 32 Lib.Math.max.name, Cond.methodLink RX7 35 yJ7_fill_d0a16, Cond.static yJ7_fill_d0a16, Cond.code yJ7_fill_d0a16 cJ7_fill_d0a16 5 none, Cond.methodLink RL 295 yX12_row, Cond.instanceMethod yX12_row, Cond.selects RX12 yX12_row yX12_row, Cond.code yX12_row cX12_row 5 (some .int), Cond.methodLink RL 298 yX11_write, Cond.instanceMethod yX11_write, Cond.selects RX11 yX11_write yX11_write, Cond.code yX11_write cX11_write 6 (some .int), Cond.methodLink RX11 426 yX7_put]
def wsL_law_r74 : List Cond := [Cond.instanceMethod yX7_put, Cond.selects RX7 yX7_put yX7_put, Cond.code yX7_put cX7_put 4 none, Cond.methodLink RX7 41 yX7_cutToWidth, Cond.instanceMethod yX7_cutToWidth, Cond.selects RX7 yX7_cutToWidth yX7_cutToWidth, Cond.code yX7_cutToWidth cX7_cutToWidth 3 (some .long), Cond.methodLink RL 302 yX12_write, Cond.instanceMethod yX12_write, Cond.selects RX12 yX12_write yX12_write, Cond.code yX12_write cX12_write 5 (some .int), Cond.methodLink RX12 462 yX12_cut, Cond.static yX12_cut, Cond.code yX12_cut cX12_cut 4 (some .long), Cond.methodLink RL 303 yX11_paste, Cond.instanceMethod yX11_paste, Cond.selects RX11 yX11_paste yX11_paste, Cond.code yX11_paste cX11_paste 8 (some .int), Cond.methodLink RX11 430 yX7_width, Cond.instanceMethod yX7_width, Cond.selects RX7 yX7_width yX7_width, Cond.code yX7_width cX7_width 1 (some .int), Cond.methodLink RX11 433 yX7_holds, Cond.instanceMethod yX7_holds]
def wsL_law_r75 : List Cond := [Cond.selects RX7 yX7_holds yX7_holds, Cond.code yX7_holds cX7_holds 3 (some .boolean), Cond.methodLink RX11 436 yX7_copyFrom, Cond.instanceMethod yX7_copyFrom, Cond.selects RX7 yX7_copyFrom yX7_copyFrom, Cond.code yX7_copyFrom cX7_copyFrom 5 none, Cond.methodLink RX7 49 arraycopyName, Cond.methodLink RX7 45 yX7_holds, Cond.methodLink RL 306 yX12_paste, Cond.instanceMethod yX12_paste, Cond.selects RX12 yX12_paste yX12_paste, Cond.code yX12_paste cX12_paste 7 (some .int)]
def wsL_law : List Cond := (wsL_law_r1 ++ (wsL_law_r2 ++ (wsL_law_r3 ++ (wsL_law_r4 ++ (wsL_law_r5 ++ (wsL_law_r6 ++ (wsL_law_r7 ++ (wsL_law_r8 ++ (wsL_law_r9 ++ (wsL_law_r10 ++ (wsL_law_r11 ++ (wsL_law_r12 ++ (wsL_law_r13 ++ (wsL_law_r14 ++ (wsL_law_r15 ++ (wsL_law_r16 ++ (wsL_law_r17 ++ (wsL_law_r18 ++ (wsL_law_r19 ++ (wsL_law_r20 ++ (wsL_law_r21 ++ (wsL_law_r22 ++ (wsL_law_r23 ++ (wsL_law_r24 ++ (wsL_law_r25 ++ (wsL_law_r26 ++ (wsL_law_r27 ++ (wsL_law_r28 ++ (wsL_law_r29 ++ (wsL_law_r30 ++ (wsL_law_r31 ++ (wsL_law_r32 ++ (wsL_law_r33 ++ (wsL_law_r34 ++ (wsL_law_r35 ++ (wsL_law_r36 ++ (wsL_law_r37 ++ (wsL_law_r38 ++ (wsL_law_r39 ++ (wsL_law_r40 ++ (wsL_law_r41 ++ (wsL_law_r42 ++ (wsL_law_r43 ++ (wsL_law_r44 ++ (wsL_law_r45 ++ (wsL_law_r46 ++ (wsL_law_r47 ++ (wsL_law_r48 ++ (wsL_law_r49 ++ (wsL_law_r50 ++ (wsL_law_r51 ++ (wsL_law_r52 ++ (wsL_law_r53 ++ (wsL_law_r54 ++ (wsL_law_r55 ++ (wsL_law_r56 ++ (wsL_law_r57 ++ (wsL_law_r58 ++ (wsL_law_r59 ++ (wsL_law_r60 ++ (wsL_law_r61 ++ (wsL_law_r62 ++ (wsL_law_r63 ++ (wsL_law_r64 ++ (wsL_law_r65 ++ (wsL_law_r66 ++ (wsL_law_r67 ++ (wsL_law_r68 ++ (wsL_law_r69 ++ (wsL_law_r70 ++ (wsL_law_r71 ++ (wsL_law_r72 ++ (wsL_law_r73 ++ (wsL_law_r74 ++ wsL_law_r75)))))))))))))))))))))))))))))))))))))))))))))))))))))))))))))))))))))))))) ++ wsX110 ++ wsX120 ++ wsX90 ++ wsX60 ++ wsX80 ++ wsX70 ++ wsX40 ++ wsX10 ++ wsX100 ++ wsX30 ++ wsX50 ++ wsX20 ++ wsX00 ++ ([] : List Cond)
theorem inlX0 : ∀ w ∈ wsX00, w ∈ wsL_law := fun _ h => List.mem_append_left _ (List.mem_append_right _ h)
theorem inlX1 : ∀ w ∈ wsX10, w ∈ wsL_law := fun _ h => List.mem_append_left _ (List.mem_append_left _ (List.mem_append_left _ (List.mem_append_left _ (List.mem_append_left _ (List.mem_append_left _ (List.mem_append_right _ h))))))
theorem inlX2 : ∀ w ∈ wsX20, w ∈ wsL_law := fun _ h => List.mem_append_left _ (List.mem_append_left _ (List.mem_append_right _ h))
theorem inlX3 : ∀ w ∈ wsX30, w ∈ wsL_law := fun _ h => List.mem_append_left _ (List.mem_append_left _ (List.mem_append_left _ (List.mem_append_left _ (List.mem_append_right _ h))))
theorem inlX4 : ∀ w ∈ wsX40, w ∈ wsL_law := fun _ h => List.mem_append_left _ (List.mem_append_left _ (List.mem_append_left _ (List.mem_append_left _ (List.mem_append_left _ (List.mem_append_left _ (List.mem_append_left _ (List.mem_append_right _ h)))))))
theorem inlX5 : ∀ w ∈ wsX50, w ∈ wsL_law := fun _ h => List.mem_append_left _ (List.mem_append_left _ (List.mem_append_left _ (List.mem_append_right _ h)))
theorem inlX6 : ∀ w ∈ wsX60, w ∈ wsL_law := fun _ h => List.mem_append_left _ (List.mem_append_left _ (List.mem_append_left _ (List.mem_append_left _ (List.mem_append_left _ (List.mem_append_left _ (List.mem_append_left _ (List.mem_append_left _ (List.mem_append_left _ (List.mem_append_left _ (List.mem_append_right _ h))))))))))
theorem inlX7 : ∀ w ∈ wsX70, w ∈ wsL_law := fun _ h => List.mem_append_left _ (List.mem_append_left _ (List.mem_append_left _ (List.mem_append_left _ (List.mem_append_left _ (List.mem_append_left _ (List.mem_append_left _ (List.mem_append_left _ (List.mem_append_right _ h))))))))
theorem inlX8 : ∀ w ∈ wsX80, w ∈ wsL_law := fun _ h => List.mem_append_left _ (List.mem_append_left _ (List.mem_append_left _ (List.mem_append_left _ (List.mem_append_left _ (List.mem_append_left _ (List.mem_append_left _ (List.mem_append_left _ (List.mem_append_left _ (List.mem_append_right _ h)))))))))
theorem inlX9 : ∀ w ∈ wsX90, w ∈ wsL_law := fun _ h => List.mem_append_left _ (List.mem_append_left _ (List.mem_append_left _ (List.mem_append_left _ (List.mem_append_left _ (List.mem_append_left _ (List.mem_append_left _ (List.mem_append_left _ (List.mem_append_left _ (List.mem_append_left _ (List.mem_append_left _ (List.mem_append_right _ h)))))))))))
theorem inlX10 : ∀ w ∈ wsX100, w ∈ wsL_law := fun _ h => List.mem_append_left _ (List.mem_append_left _ (List.mem_append_left _ (List.mem_append_left _ (List.mem_append_left _ (List.mem_append_right _ h)))))
theorem inlX11 : ∀ w ∈ wsX110, w ∈ wsL_law := fun _ h => List.mem_append_left _ (List.mem_append_left _ (List.mem_append_left _ (List.mem_append_left _ (List.mem_append_left _ (List.mem_append_left _ (List.mem_append_left _ (List.mem_append_left _ (List.mem_append_left _ (List.mem_append_left _ (List.mem_append_left _ (List.mem_append_left _ (List.mem_append_left _ (List.mem_append_right _ h)))))))))))))
theorem inlX12 : ∀ w ∈ wsX120, w ∈ wsL_law := fun _ h => List.mem_append_left _ (List.mem_append_left _ (List.mem_append_left _ (List.mem_append_left _ (List.mem_append_left _ (List.mem_append_left _ (List.mem_append_left _ (List.mem_append_left _ (List.mem_append_left _ (List.mem_append_left _ (List.mem_append_left _ (List.mem_append_left _ (List.mem_append_right _ h))))))))))))
abbrev vwCl : List vw_C := [(RX0, TX0, 4), (RX1, TX1, 5), (RX2, TX2, 4), (RX3, TX3, 8), (RX4, TX4, 4), (RX5, TX5, 5), (RX6, TX6, 7), (RX7, TX7, 4), (RX8, TX8, 12), (RX9, TX9, 2), (RX10, TX10, 3), (RX11, TX11, 14), (RX12, TX12, 48)]
theorem inr1 : ∀ w ∈ wsL_law_r1, w ∈ wsL_law := fun _ h => List.mem_append_left _ (List.mem_append_left _ (List.mem_append_left _ (List.mem_append_left _ (List.mem_append_left _ (List.mem_append_left _ (List.mem_append_left _ (List.mem_append_left _ (List.mem_append_left _ (List.mem_append_left _ (List.mem_append_left _ (List.mem_append_left _ (List.mem_append_left _ (List.mem_append_left _ (List.mem_append_left _ h))))))))))))))
theorem inr2 : ∀ w ∈ wsL_law_r2, w ∈ wsL_law := fun _ h => List.mem_append_left _ (List.mem_append_left _ (List.mem_append_left _ (List.mem_append_left _ (List.mem_append_left _ (List.mem_append_left _ (List.mem_append_left _ (List.mem_append_left _ (List.mem_append_left _ (List.mem_append_left _ (List.mem_append_left _ (List.mem_append_left _ (List.mem_append_left _ (List.mem_append_left _ (List.mem_append_right _ (List.mem_append_left _ h)))))))))))))))
theorem inr3 : ∀ w ∈ wsL_law_r3, w ∈ wsL_law := fun _ h => List.mem_append_left _ (List.mem_append_left _ (List.mem_append_left _ (List.mem_append_left _ (List.mem_append_left _ (List.mem_append_left _ (List.mem_append_left _ (List.mem_append_left _ (List.mem_append_left _ (List.mem_append_left _ (List.mem_append_left _ (List.mem_append_left _ (List.mem_append_left _ (List.mem_append_left _ (List.mem_append_right _ (List.mem_append_right _ (List.mem_append_left _ h))))))))))))))))
theorem inr4 : ∀ w ∈ wsL_law_r4, w ∈ wsL_law := fun _ h => List.mem_append_left _ (List.mem_append_left _ (List.mem_append_left _ (List.mem_append_left _ (List.mem_append_left _ (List.mem_append_left _ (List.mem_append_left _ (List.mem_append_left _ (List.mem_append_left _ (List.mem_append_left _ (List.mem_append_left _ (List.mem_append_left _ (List.mem_append_left _ (List.mem_append_left _ (List.mem_append_right _ (List.mem_append_right _ (List.mem_append_right _ (List.mem_append_left _ h)))))))))))))))))
theorem inr5 : ∀ w ∈ wsL_law_r5, w ∈ wsL_law := fun _ h => List.mem_append_left _ (List.mem_append_left _ (List.mem_append_left _ (List.mem_append_left _ (List.mem_append_left _ (List.mem_append_left _ (List.mem_append_left _ (List.mem_append_left _ (List.mem_append_left _ (List.mem_append_left _ (List.mem_append_left _ (List.mem_append_left _ (List.mem_append_left _ (List.mem_append_left _ (List.mem_append_right _ (List.mem_append_right _ (List.mem_append_right _ (List.mem_append_right _ (List.mem_append_left _ h))))))))))))))))))
theorem inr6 : ∀ w ∈ wsL_law_r6, w ∈ wsL_law := fun _ h => List.mem_append_left _ (List.mem_append_left _ (List.mem_append_left _ (List.mem_append_left _ (List.mem_append_left _ (List.mem_append_left _ (List.mem_append_left _ (List.mem_append_left _ (List.mem_append_left _ (List.mem_append_left _ (List.mem_append_left _ (List.mem_append_left _ (List.mem_append_left _ (List.mem_append_left _ (List.mem_append_right _ (List.mem_append_right _ (List.mem_append_right _ (List.mem_append_right _ (List.mem_append_right _ (List.mem_append_left _ h)))))))))))))))))))
theorem inr7 : ∀ w ∈ wsL_law_r7, w ∈ wsL_law := fun _ h => List.mem_append_left _ (List.mem_append_left _ (List.mem_append_left _ (List.mem_append_left _ (List.mem_append_left _ (List.mem_append_left _ (List.mem_append_left _ (List.mem_append_left _ (List.mem_append_left _ (List.mem_append_left _ (List.mem_append_left _ (List.mem_append_left _ (List.mem_append_left _ (List.mem_append_left _ (List.mem_append_right _ (List.mem_append_right _ (List.mem_append_right _ (List.mem_append_right _ (List.mem_append_right _ (List.mem_append_right _ (List.mem_append_left _ h))))))))))))))))))))
theorem inr8 : ∀ w ∈ wsL_law_r8, w ∈ wsL_law := fun _ h => List.mem_append_left _ (List.mem_append_left _ (List.mem_append_left _ (List.mem_append_left _ (List.mem_append_left _ (List.mem_append_left _ (List.mem_append_left _ (List.mem_append_left _ (List.mem_append_left _ (List.mem_append_left _ (List.mem_append_left _ (List.mem_append_left _ (List.mem_append_left _ (List.mem_append_left _ (List.mem_append_right _ (List.mem_append_right _ (List.mem_append_right _ (List.mem_append_right _ (List.mem_append_right _ (List.mem_append_right _ (List.mem_append_right _ (List.mem_append_left _ h)))))))))))))))))))))
theorem inr9 : ∀ w ∈ wsL_law_r9, w ∈ wsL_law := fun _ h => List.mem_append_left _ (List.mem_append_left _ (List.mem_append_left _ (List.mem_append_left _ (List.mem_append_left _ (List.mem_append_left _ (List.mem_append_left _ (List.mem_append_left _ (List.mem_append_left _ (List.mem_append_left _ (List.mem_append_left _ (List.mem_append_left _ (List.mem_append_left _ (List.mem_append_left _ (List.mem_append_right _ (List.mem_append_right _ (List.mem_append_right _ (List.mem_append_right _ (List.mem_append_right _ (List.mem_append_right _ (List.mem_append_right _ (List.mem_append_right _ (List.mem_append_left _ h))))))))))))))))))))))
theorem inr10 : ∀ w ∈ wsL_law_r10, w ∈ wsL_law := fun _ h => List.mem_append_left _ (List.mem_append_left _ (List.mem_append_left _ (List.mem_append_left _ (List.mem_append_left _ (List.mem_append_left _ (List.mem_append_left _ (List.mem_append_left _ (List.mem_append_left _ (List.mem_append_left _ (List.mem_append_left _ (List.mem_append_left _ (List.mem_append_left _ (List.mem_append_left _ (List.mem_append_right _ (List.mem_append_right _ (List.mem_append_right _ (List.mem_append_right _ (List.mem_append_right _ (List.mem_append_right _ (List.mem_append_right _ (List.mem_append_right _ (List.mem_append_right _ (List.mem_append_left _ h)))))))))))))))))))))))
theorem inr11 : ∀ w ∈ wsL_law_r11, w ∈ wsL_law := fun _ h => List.mem_append_left _ (List.mem_append_left _ (List.mem_append_left _ (List.mem_append_left _ (List.mem_append_left _ (List.mem_append_left _ (List.mem_append_left _ (List.mem_append_left _ (List.mem_append_left _ (List.mem_append_left _ (List.mem_append_left _ (List.mem_append_left _ (List.mem_append_left _ (List.mem_append_left _ (List.mem_append_right _ (List.mem_append_right _ (List.mem_append_right _ (List.mem_append_right _ (List.mem_append_right _ (List.mem_append_right _ (List.mem_append_right _ (List.mem_append_right _ (List.mem_append_right _ (List.mem_append_right _ (List.mem_append_left _ h))))))))))))))))))))))))
theorem inr12 : ∀ w ∈ wsL_law_r12, w ∈ wsL_law := fun _ h => List.mem_append_left _ (List.mem_append_left _ (List.mem_append_left _ (List.mem_append_left _ (List.mem_append_left _ (List.mem_append_left _ (List.mem_append_left _ (List.mem_append_left _ (List.mem_append_left _ (List.mem_append_left _ (List.mem_append_left _ (List.mem_append_left _ (List.mem_append_left _ (List.mem_append_left _ (List.mem_append_right _ (List.mem_append_right _ (List.mem_append_right _ (List.mem_append_right _ (List.mem_append_right _ (List.mem_append_right _ (List.mem_append_right _ (List.mem_append_right _ (List.mem_append_right _ (List.mem_append_right _ (List.mem_append_right _ (List.mem_append_left _ h)))))))))))))))))))))))))
theorem inr13 : ∀ w ∈ wsL_law_r13, w ∈ wsL_law := fun _ h => List.mem_append_left _ (List.mem_append_left _ (List.mem_append_left _ (List.mem_append_left _ (List.mem_append_left _ (List.mem_append_left _ (List.mem_append_left _ (List.mem_append_left _ (List.mem_append_left _ (List.mem_append_left _ (List.mem_append_left _ (List.mem_append_left _ (List.mem_append_left _ (List.mem_append_left _ (List.mem_append_right _ (List.mem_append_right _ (List.mem_append_right _ (List.mem_append_right _ (List.mem_append_right _ (List.mem_append_right _ (List.mem_append_right _ (List.mem_append_right _ (List.mem_append_right _ (List.mem_append_right _ (List.mem_append_right _ (List.mem_append_right _ (List.mem_append_left _ h))))))))))))))))))))))))))
theorem inr14 : ∀ w ∈ wsL_law_r14, w ∈ wsL_law := fun _ h => List.mem_append_left _ (List.mem_append_left _ (List.mem_append_left _ (List.mem_append_left _ (List.mem_append_left _ (List.mem_append_left _ (List.mem_append_left _ (List.mem_append_left _ (List.mem_append_left _ (List.mem_append_left _ (List.mem_append_left _ (List.mem_append_left _ (List.mem_append_left _ (List.mem_append_left _ (List.mem_append_right _ (List.mem_append_right _ (List.mem_append_right _ (List.mem_append_right _ (List.mem_append_right _ (List.mem_append_right _ (List.mem_append_right _ (List.mem_append_right _ (List.mem_append_right _ (List.mem_append_right _ (List.mem_append_right _ (List.mem_append_right _ (List.mem_append_right _ (List.mem_append_left _ h)))))))))))))))))))))))))))
theorem inr15 : ∀ w ∈ wsL_law_r15, w ∈ wsL_law := fun _ h => List.mem_append_left _ (List.mem_append_left _ (List.mem_append_left _ (List.mem_append_left _ (List.mem_append_left _ (List.mem_append_left _ (List.mem_append_left _ (List.mem_append_left _ (List.mem_append_left _ (List.mem_append_left _ (List.mem_append_left _ (List.mem_append_left _ (List.mem_append_left _ (List.mem_append_left _ (List.mem_append_right _ (List.mem_append_right _ (List.mem_append_right _ (List.mem_append_right _ (List.mem_append_right _ (List.mem_append_right _ (List.mem_append_right _ (List.mem_append_right _ (List.mem_append_right _ (List.mem_append_right _ (List.mem_append_right _ (List.mem_append_right _ (List.mem_append_right _ (List.mem_append_right _ (List.mem_append_left _ h))))))))))))))))))))))))))))
theorem inr16 : ∀ w ∈ wsL_law_r16, w ∈ wsL_law := fun _ h => List.mem_append_left _ (List.mem_append_left _ (List.mem_append_left _ (List.mem_append_left _ (List.mem_append_left _ (List.mem_append_left _ (List.mem_append_left _ (List.mem_append_left _ (List.mem_append_left _ (List.mem_append_left _ (List.mem_append_left _ (List.mem_append_left _ (List.mem_append_left _ (List.mem_append_left _ (List.mem_append_right _ (List.mem_append_right _ (List.mem_append_right _ (List.mem_append_right _ (List.mem_append_right _ (List.mem_append_right _ (List.mem_append_right _ (List.mem_append_right _ (List.mem_append_right _ (List.mem_append_right _ (List.mem_append_right _ (List.mem_append_right _ (List.mem_append_right _ (List.mem_append_right _ (List.mem_append_right _ (List.mem_append_left _ h)))))))))))))))))))))))))))))
theorem inr17 : ∀ w ∈ wsL_law_r17, w ∈ wsL_law := fun _ h => List.mem_append_left _ (List.mem_append_left _ (List.mem_append_left _ (List.mem_append_left _ (List.mem_append_left _ (List.mem_append_left _ (List.mem_append_left _ (List.mem_append_left _ (List.mem_append_left _ (List.mem_append_left _ (List.mem_append_left _ (List.mem_append_left _ (List.mem_append_left _ (List.mem_append_left _ (List.mem_append_right _ (List.mem_append_right _ (List.mem_append_right _ (List.mem_append_right _ (List.mem_append_right _ (List.mem_append_right _ (List.mem_append_right _ (List.mem_append_right _ (List.mem_append_right _ (List.mem_append_right _ (List.mem_append_right _ (List.mem_append_right _ (List.mem_append_right _ (List.mem_append_right _ (List.mem_append_right _ (List.mem_append_right _ (List.mem_append_left _ h))))))))))))))))))))))))))))))
theorem inr18 : ∀ w ∈ wsL_law_r18, w ∈ wsL_law := fun _ h => List.mem_append_left _ (List.mem_append_left _ (List.mem_append_left _ (List.mem_append_left _ (List.mem_append_left _ (List.mem_append_left _ (List.mem_append_left _ (List.mem_append_left _ (List.mem_append_left _ (List.mem_append_left _ (List.mem_append_left _ (List.mem_append_left _ (List.mem_append_left _ (List.mem_append_left _ (List.mem_append_right _ (List.mem_append_right _ (List.mem_append_right _ (List.mem_append_right _ (List.mem_append_right _ (List.mem_append_right _ (List.mem_append_right _ (List.mem_append_right _ (List.mem_append_right _ (List.mem_append_right _ (List.mem_append_right _ (List.mem_append_right _ (List.mem_append_right _ (List.mem_append_right _ (List.mem_append_right _ (List.mem_append_right _ (List.mem_append_right _ (List.mem_append_left _ h)))))))))))))))))))))))))))))))
theorem inr19 : ∀ w ∈ wsL_law_r19, w ∈ wsL_law := fun _ h => List.mem_append_left _ (List.mem_append_left _ (List.mem_append_left _ (List.mem_append_left _ (List.mem_append_left _ (List.mem_append_left _ (List.mem_append_left _ (List.mem_append_left _ (List.mem_append_left _ (List.mem_append_left _ (List.mem_append_left _ (List.mem_append_left _ (List.mem_append_left _ (List.mem_append_left _ (List.mem_append_right _ (List.mem_append_right _ (List.mem_append_right _ (List.mem_append_right _ (List.mem_append_right _ (List.mem_append_right _ (List.mem_append_right _ (List.mem_append_right _ (List.mem_append_right _ (List.mem_append_right _ (List.mem_append_right _ (List.mem_append_right _ (List.mem_append_right _ (List.mem_append_right _ (List.mem_append_right _ (List.mem_append_right _ (List.mem_append_right _ (List.mem_append_right _ (List.mem_append_left _ h))))))))))))))))))))))))))))))))
theorem inr20 : ∀ w ∈ wsL_law_r20, w ∈ wsL_law := fun _ h => List.mem_append_left _ (List.mem_append_left _ (List.mem_append_left _ (List.mem_append_left _ (List.mem_append_left _ (List.mem_append_left _ (List.mem_append_left _ (List.mem_append_left _ (List.mem_append_left _ (List.mem_append_left _ (List.mem_append_left _ (List.mem_append_left _ (List.mem_append_left _ (List.mem_append_left _ (List.mem_append_right _ (List.mem_append_right _ (List.mem_append_right _ (List.mem_append_right _ (List.mem_append_right _ (List.mem_append_right _ (List.mem_append_right _ (List.mem_append_right _ (List.mem_append_right _ (List.mem_append_right _ (List.mem_append_right _ (List.mem_append_right _ (List.mem_append_right _ (List.mem_append_right _ (List.mem_append_right _ (List.mem_append_right _ (List.mem_append_right _ (List.mem_append_right _ (List.mem_append_right _ (List.mem_append_left _ h)))))))))))))))))))))))))))))))))
theorem inr21 : ∀ w ∈ wsL_law_r21, w ∈ wsL_law := fun _ h => List.mem_append_left _ (List.mem_append_left _ (List.mem_append_left _ (List.mem_append_left _ (List.mem_append_left _ (List.mem_append_left _ (List.mem_append_left _ (List.mem_append_left _ (List.mem_append_left _ (List.mem_append_left _ (List.mem_append_left _ (List.mem_append_left _ (List.mem_append_left _ (List.mem_append_left _ (List.mem_append_right _ (List.mem_append_right _ (List.mem_append_right _ (List.mem_append_right _ (List.mem_append_right _ (List.mem_append_right _ (List.mem_append_right _ (List.mem_append_right _ (List.mem_append_right _ (List.mem_append_right _ (List.mem_append_right _ (List.mem_append_right _ (List.mem_append_right _ (List.mem_append_right _ (List.mem_append_right _ (List.mem_append_right _ (List.mem_append_right _ (List.mem_append_right _ (List.mem_append_right _ (List.mem_append_right _ (List.mem_append_left _ h))))))))))))))))))))))))))))))))))
theorem inr22 : ∀ w ∈ wsL_law_r22, w ∈ wsL_law := fun _ h => List.mem_append_left _ (List.mem_append_left _ (List.mem_append_left _ (List.mem_append_left _ (List.mem_append_left _ (List.mem_append_left _ (List.mem_append_left _ (List.mem_append_left _ (List.mem_append_left _ (List.mem_append_left _ (List.mem_append_left _ (List.mem_append_left _ (List.mem_append_left _ (List.mem_append_left _ (List.mem_append_right _ (List.mem_append_right _ (List.mem_append_right _ (List.mem_append_right _ (List.mem_append_right _ (List.mem_append_right _ (List.mem_append_right _ (List.mem_append_right _ (List.mem_append_right _ (List.mem_append_right _ (List.mem_append_right _ (List.mem_append_right _ (List.mem_append_right _ (List.mem_append_right _ (List.mem_append_right _ (List.mem_append_right _ (List.mem_append_right _ (List.mem_append_right _ (List.mem_append_right _ (List.mem_append_right _ (List.mem_append_right _ (List.mem_append_left _ h)))))))))))))))))))))))))))))))))))
theorem inr23 : ∀ w ∈ wsL_law_r23, w ∈ wsL_law := fun _ h => List.mem_append_left _ (List.mem_append_left _ (List.mem_append_left _ (List.mem_append_left _ (List.mem_append_left _ (List.mem_append_left _ (List.mem_append_left _ (List.mem_append_left _ (List.mem_append_left _ (List.mem_append_left _ (List.mem_append_left _ (List.mem_append_left _ (List.mem_append_left _ (List.mem_append_left _ (List.mem_append_right _ (List.mem_append_right _ (List.mem_append_right _ (List.mem_append_right _ (List.mem_append_right _ (List.mem_append_right _ (List.mem_append_right _ (List.mem_append_right _ (List.mem_append_right _ (List.mem_append_right _ (List.mem_append_right _ (List.mem_append_right _ (List.mem_append_right _ (List.mem_append_right _ (List.mem_append_right _ (List.mem_append_right _ (List.mem_append_right _ (List.mem_append_right _ (List.mem_append_right _ (List.mem_append_right _ (List.mem_append_right _ (List.mem_append_right _ (List.mem_append_left _ h))))))))))))))))))))))))))))))))))))
theorem inr24 : ∀ w ∈ wsL_law_r24, w ∈ wsL_law := fun _ h => List.mem_append_left _ (List.mem_append_left _ (List.mem_append_left _ (List.mem_append_left _ (List.mem_append_left _ (List.mem_append_left _ (List.mem_append_left _ (List.mem_append_left _ (List.mem_append_left _ (List.mem_append_left _ (List.mem_append_left _ (List.mem_append_left _ (List.mem_append_left _ (List.mem_append_left _ (List.mem_append_right _ (List.mem_append_right _ (List.mem_append_right _ (List.mem_append_right _ (List.mem_append_right _ (List.mem_append_right _ (List.mem_append_right _ (List.mem_append_right _ (List.mem_append_right _ (List.mem_append_right _ (List.mem_append_right _ (List.mem_append_right _ (List.mem_append_right _ (List.mem_append_right _ (List.mem_append_right _ (List.mem_append_right _ (List.mem_append_right _ (List.mem_append_right _ (List.mem_append_right _ (List.mem_append_right _ (List.mem_append_right _ (List.mem_append_right _ (List.mem_append_right _ (List.mem_append_left _ h)))))))))))))))))))))))))))))))))))))
theorem inr25 : ∀ w ∈ wsL_law_r25, w ∈ wsL_law := fun _ h => List.mem_append_left _ (List.mem_append_left _ (List.mem_append_left _ (List.mem_append_left _ (List.mem_append_left _ (List.mem_append_left _ (List.mem_append_left _ (List.mem_append_left _ (List.mem_append_left _ (List.mem_append_left _ (List.mem_append_left _ (List.mem_append_left _ (List.mem_append_left _ (List.mem_append_left _ (List.mem_append_right _ (List.mem_append_right _ (List.mem_append_right _ (List.mem_append_right _ (List.mem_append_right _ (List.mem_append_right _ (List.mem_append_right _ (List.mem_append_right _ (List.mem_append_right _ (List.mem_append_right _ (List.mem_append_right _ (List.mem_append_right _ (List.mem_append_right _ (List.mem_append_right _ (List.mem_append_right _ (List.mem_append_right _ (List.mem_append_right _ (List.mem_append_right _ (List.mem_append_right _ (List.mem_append_right _ (List.mem_append_right _ (List.mem_append_right _ (List.mem_append_right _ (List.mem_append_right _ (List.mem_append_left _ h))))))))))))))))))))))))))))))))))))))
theorem inr26 : ∀ w ∈ wsL_law_r26, w ∈ wsL_law := fun _ h => List.mem_append_left _ (List.mem_append_left _ (List.mem_append_left _ (List.mem_append_left _ (List.mem_append_left _ (List.mem_append_left _ (List.mem_append_left _ (List.mem_append_left _ (List.mem_append_left _ (List.mem_append_left _ (List.mem_append_left _ (List.mem_append_left _ (List.mem_append_left _ (List.mem_append_left _ (List.mem_append_right _ (List.mem_append_right _ (List.mem_append_right _ (List.mem_append_right _ (List.mem_append_right _ (List.mem_append_right _ (List.mem_append_right _ (List.mem_append_right _ (List.mem_append_right _ (List.mem_append_right _ (List.mem_append_right _ (List.mem_append_right _ (List.mem_append_right _ (List.mem_append_right _ (List.mem_append_right _ (List.mem_append_right _ (List.mem_append_right _ (List.mem_append_right _ (List.mem_append_right _ (List.mem_append_right _ (List.mem_append_right _ (List.mem_append_right _ (List.mem_append_right _ (List.mem_append_right _ (List.mem_append_right _ (List.mem_append_left _ h)))))))))))))))))))))))))))))))))))))))
theorem inr27 : ∀ w ∈ wsL_law_r27, w ∈ wsL_law := fun _ h => List.mem_append_left _ (List.mem_append_left _ (List.mem_append_left _ (List.mem_append_left _ (List.mem_append_left _ (List.mem_append_left _ (List.mem_append_left _ (List.mem_append_left _ (List.mem_append_left _ (List.mem_append_left _ (List.mem_append_left _ (List.mem_append_left _ (List.mem_append_left _ (List.mem_append_left _ (List.mem_append_right _ (List.mem_append_right _ (List.mem_append_right _ (List.mem_append_right _ (List.mem_append_right _ (List.mem_append_right _ (List.mem_append_right _ (List.mem_append_right _ (List.mem_append_right _ (List.mem_append_right _ (List.mem_append_right _ (List.mem_append_right _ (List.mem_append_right _ (List.mem_append_right _ (List.mem_append_right _ (List.mem_append_right _ (List.mem_append_right _ (List.mem_append_right _ (List.mem_append_right _ (List.mem_append_right _ (List.mem_append_right _ (List.mem_append_right _ (List.mem_append_right _ (List.mem_append_right _ (List.mem_append_right _ (List.mem_append_right _ (List.mem_append_left _ h))))))))))))))))))))))))))))))))))))))))
theorem inr28 : ∀ w ∈ wsL_law_r28, w ∈ wsL_law := fun _ h => List.mem_append_left _ (List.mem_append_left _ (List.mem_append_left _ (List.mem_append_left _ (List.mem_append_left _ (List.mem_append_left _ (List.mem_append_left _ (List.mem_append_left _ (List.mem_append_left _ (List.mem_append_left _ (List.mem_append_left _ (List.mem_append_left _ (List.mem_append_left _ (List.mem_append_left _ (List.mem_append_right _ (List.mem_append_right _ (List.mem_append_right _ (List.mem_append_right _ (List.mem_append_right _ (List.mem_append_right _ (List.mem_append_right _ (List.mem_append_right _ (List.mem_append_right _ (List.mem_append_right _ (List.mem_append_right _ (List.mem_append_right _ (List.mem_append_right _ (List.mem_append_right _ (List.mem_append_right _ (List.mem_append_right _ (List.mem_append_right _ (List.mem_append_right _ (List.mem_append_right _ (List.mem_append_right _ (List.mem_append_right _ (List.mem_append_right _ (List.mem_append_right _ (List.mem_append_right _ (List.mem_append_right _ (List.mem_append_right _ (List.mem_append_right _ (List.mem_append_left _ h)))))))))))))))))))))))))))))))))))))))))
theorem inr29 : ∀ w ∈ wsL_law_r29, w ∈ wsL_law := fun _ h => List.mem_append_left _ (List.mem_append_left _ (List.mem_append_left _ (List.mem_append_left _ (List.mem_append_left _ (List.mem_append_left _ (List.mem_append_left _ (List.mem_append_left _ (List.mem_append_left _ (List.mem_append_left _ (List.mem_append_left _ (List.mem_append_left _ (List.mem_append_left _ (List.mem_append_left _ (List.mem_append_right _ (List.mem_append_right _ (List.mem_append_right _ (List.mem_append_right _ (List.mem_append_right _ (List.mem_append_right _ (List.mem_append_right _ (List.mem_append_right _ (List.mem_append_right _ (List.mem_append_right _ (List.mem_append_right _ (List.mem_append_right _ (List.mem_append_right _ (List.mem_append_right _ (List.mem_append_right _ (List.mem_append_right _ (List.mem_append_right _ (List.mem_append_right _ (List.mem_append_right _ (List.mem_append_right _ (List.mem_append_right _ (List.mem_append_right _ (List.mem_append_right _ (List.mem_append_right _ (List.mem_append_right _ (List.mem_append_right _ (List.mem_append_right _ (List.mem_append_right _ (List.mem_append_left _ h))))))))))))))))))))))))))))))))))))))))))
theorem inr30 : ∀ w ∈ wsL_law_r30, w ∈ wsL_law := fun _ h => List.mem_append_left _ (List.mem_append_left _ (List.mem_append_left _ (List.mem_append_left _ (List.mem_append_left _ (List.mem_append_left _ (List.mem_append_left _ (List.mem_append_left _ (List.mem_append_left _ (List.mem_append_left _ (List.mem_append_left _ (List.mem_append_left _ (List.mem_append_left _ (List.mem_append_left _ (List.mem_append_right _ (List.mem_append_right _ (List.mem_append_right _ (List.mem_append_right _ (List.mem_append_right _ (List.mem_append_right _ (List.mem_append_right _ (List.mem_append_right _ (List.mem_append_right _ (List.mem_append_right _ (List.mem_append_right _ (List.mem_append_right _ (List.mem_append_right _ (List.mem_append_right _ (List.mem_append_right _ (List.mem_append_right _ (List.mem_append_right _ (List.mem_append_right _ (List.mem_append_right _ (List.mem_append_right _ (List.mem_append_right _ (List.mem_append_right _ (List.mem_append_right _ (List.mem_append_right _ (List.mem_append_right _ (List.mem_append_right _ (List.mem_append_right _ (List.mem_append_right _ (List.mem_append_right _ (List.mem_append_left _ h)))))))))))))))))))))))))))))))))))))))))))
theorem inr31 : ∀ w ∈ wsL_law_r31, w ∈ wsL_law := fun _ h => List.mem_append_left _ (List.mem_append_left _ (List.mem_append_left _ (List.mem_append_left _ (List.mem_append_left _ (List.mem_append_left _ (List.mem_append_left _ (List.mem_append_left _ (List.mem_append_left _ (List.mem_append_left _ (List.mem_append_left _ (List.mem_append_left _ (List.mem_append_left _ (List.mem_append_left _ (List.mem_append_right _ (List.mem_append_right _ (List.mem_append_right _ (List.mem_append_right _ (List.mem_append_right _ (List.mem_append_right _ (List.mem_append_right _ (List.mem_append_right _ (List.mem_append_right _ (List.mem_append_right _ (List.mem_append_right _ (List.mem_append_right _ (List.mem_append_right _ (List.mem_append_right _ (List.mem_append_right _ (List.mem_append_right _ (List.mem_append_right _ (List.mem_append_right _ (List.mem_append_right _ (List.mem_append_right _ (List.mem_append_right _ (List.mem_append_right _ (List.mem_append_right _ (List.mem_append_right _ (List.mem_append_right _ (List.mem_append_right _ (List.mem_append_right _ (List.mem_append_right _ (List.mem_append_right _ (List.mem_append_right _ (List.mem_append_left _ h))))))))))))))))))))))))))))))))))))))))))))
theorem inr32 : ∀ w ∈ wsL_law_r32, w ∈ wsL_law := fun _ h => List.mem_append_left _ (List.mem_append_left _ (List.mem_append_left _ (List.mem_append_left _ (List.mem_append_left _ (List.mem_append_left _ (List.mem_append_left _ (List.mem_append_left _ (List.mem_append_left _ (List.mem_append_left _ (List.mem_append_left _ (List.mem_append_left _ (List.mem_append_left _ (List.mem_append_left _ (List.mem_append_right _ (List.mem_append_right _ (List.mem_append_right _ (List.mem_append_right _ (List.mem_append_right _ (List.mem_append_right _ (List.mem_append_right _ (List.mem_append_right _ (List.mem_append_right _ (List.mem_append_right _ (List.mem_append_right _ (List.mem_append_right _ (List.mem_append_right _ (List.mem_append_right _ (List.mem_append_right _ (List.mem_append_right _ (List.mem_append_right _ (List.mem_append_right _ (List.mem_append_right _ (List.mem_append_right _ (List.mem_append_right _ (List.mem_append_right _ (List.mem_append_right _ (List.mem_append_right _ (List.mem_append_right _ (List.mem_append_right _ (List.mem_append_right _ (List.mem_append_right _ (List.mem_append_right _ (List.mem_append_right _ (List.mem_append_right _ (List.mem_append_left _ h)))))))))))))))))))))))))))))))))))))))))))))
theorem inr33 : ∀ w ∈ wsL_law_r33, w ∈ wsL_law := fun _ h => List.mem_append_left _ (List.mem_append_left _ (List.mem_append_left _ (List.mem_append_left _ (List.mem_append_left _ (List.mem_append_left _ (List.mem_append_left _ (List.mem_append_left _ (List.mem_append_left _ (List.mem_append_left _ (List.mem_append_left _ (List.mem_append_left _ (List.mem_append_left _ (List.mem_append_left _ (List.mem_append_right _ (List.mem_append_right _ (List.mem_append_right _ (List.mem_append_right _ (List.mem_append_right _ (List.mem_append_right _ (List.mem_append_right _ (List.mem_append_right _ (List.mem_append_right _ (List.mem_append_right _ (List.mem_append_right _ (List.mem_append_right _ (List.mem_append_right _ (List.mem_append_right _ (List.mem_append_right _ (List.mem_append_right _ (List.mem_append_right _ (List.mem_append_right _ (List.mem_append_right _ (List.mem_append_right _ (List.mem_append_right _ (List.mem_append_right _ (List.mem_append_right _ (List.mem_append_right _ (List.mem_append_right _ (List.mem_append_right _ (List.mem_append_right _ (List.mem_append_right _ (List.mem_append_right _ (List.mem_append_right _ (List.mem_append_right _ (List.mem_append_right _ (List.mem_append_left _ h))))))))))))))))))))))))))))))))))))))))))))))
theorem inr34 : ∀ w ∈ wsL_law_r34, w ∈ wsL_law := fun _ h => List.mem_append_left _ (List.mem_append_left _ (List.mem_append_left _ (List.mem_append_left _ (List.mem_append_left _ (List.mem_append_left _ (List.mem_append_left _ (List.mem_append_left _ (List.mem_append_left _ (List.mem_append_left _ (List.mem_append_left _ (List.mem_append_left _ (List.mem_append_left _ (List.mem_append_left _ (List.mem_append_right _ (List.mem_append_right _ (List.mem_append_right _ (List.mem_append_right _ (List.mem_append_right _ (List.mem_append_right _ (List.mem_append_right _ (List.mem_append_right _ (List.mem_append_right _ (List.mem_append_right _ (List.mem_append_right _ (List.mem_append_right _ (List.mem_append_right _ (List.mem_append_right _ (List.mem_append_right _ (List.mem_append_right _ (List.mem_append_right _ (List.mem_append_right _ (List.mem_append_right _ (List.mem_append_right _ (List.mem_append_right _ (List.mem_append_right _ (List.mem_append_right _ (List.mem_append_right _ (List.mem_append_right _ (List.mem_append_right _ (List.mem_append_right _ (List.mem_append_right _ (List.mem_append_right _ (List.mem_append_right _ (List.mem_append_right _ (List.mem_append_right _ (List.mem_append_right _ (List.mem_append_left _ h)))))))))))))))))))))))))))))))))))))))))))))))
theorem inr35 : ∀ w ∈ wsL_law_r35, w ∈ wsL_law := fun _ h => List.mem_append_left _ (List.mem_append_left _ (List.mem_append_left _ (List.mem_append_left _ (List.mem_append_left _ (List.mem_append_left _ (List.mem_append_left _ (List.mem_append_left _ (List.mem_append_left _ (List.mem_append_left _ (List.mem_append_left _ (List.mem_append_left _ (List.mem_append_left _ (List.mem_append_left _ (List.mem_append_right _ (List.mem_append_right _ (List.mem_append_right _ (List.mem_append_right _ (List.mem_append_right _ (List.mem_append_right _ (List.mem_append_right _ (List.mem_append_right _ (List.mem_append_right _ (List.mem_append_right _ (List.mem_append_right _ (List.mem_append_right _ (List.mem_append_right _ (List.mem_append_right _ (List.mem_append_right _ (List.mem_append_right _ (List.mem_append_right _ (List.mem_append_right _ (List.mem_append_right _ (List.mem_append_right _ (List.mem_append_right _ (List.mem_append_right _ (List.mem_append_right _ (List.mem_append_right _ (List.mem_append_right _ (List.mem_append_right _ (List.mem_append_right _ (List.mem_append_right _ (List.mem_append_right _ (List.mem_append_right _ (List.mem_append_right _ (List.mem_append_right _ (List.mem_append_right _ (List.mem_append_right _ (List.mem_append_left _ h))))))))))))))))))))))))))))))))))))))))))))))))
theorem inr36 : ∀ w ∈ wsL_law_r36, w ∈ wsL_law := fun _ h => List.mem_append_left _ (List.mem_append_left _ (List.mem_append_left _ (List.mem_append_left _ (List.mem_append_left _ (List.mem_append_left _ (List.mem_append_left _ (List.mem_append_left _ (List.mem_append_left _ (List.mem_append_left _ (List.mem_append_left _ (List.mem_append_left _ (List.mem_append_left _ (List.mem_append_left _ (List.mem_append_right _ (List.mem_append_right _ (List.mem_append_right _ (List.mem_append_right _ (List.mem_append_right _ (List.mem_append_right _ (List.mem_append_right _ (List.mem_append_right _ (List.mem_append_right _ (List.mem_append_right _ (List.mem_append_right _ (List.mem_append_right _ (List.mem_append_right _ (List.mem_append_right _ (List.mem_append_right _ (List.mem_append_right _ (List.mem_append_right _ (List.mem_append_right _ (List.mem_append_right _ (List.mem_append_right _ (List.mem_append_right _ (List.mem_append_right _ (List.mem_append_right _ (List.mem_append_right _ (List.mem_append_right _ (List.mem_append_right _ (List.mem_append_right _ (List.mem_append_right _ (List.mem_append_right _ (List.mem_append_right _ (List.mem_append_right _ (List.mem_append_right _ (List.mem_append_right _ (List.mem_append_right _ (List.mem_append_right _ (List.mem_append_left _ h)))))))))))))))))))))))))))))))))))))))))))))))))
theorem inr37 : ∀ w ∈ wsL_law_r37, w ∈ wsL_law := fun _ h => List.mem_append_left _ (List.mem_append_left _ (List.mem_append_left _ (List.mem_append_left _ (List.mem_append_left _ (List.mem_append_left _ (List.mem_append_left _ (List.mem_append_left _ (List.mem_append_left _ (List.mem_append_left _ (List.mem_append_left _ (List.mem_append_left _ (List.mem_append_left _ (List.mem_append_left _ (List.mem_append_right _ (List.mem_append_right _ (List.mem_append_right _ (List.mem_append_right _ (List.mem_append_right _ (List.mem_append_right _ (List.mem_append_right _ (List.mem_append_right _ (List.mem_append_right _ (List.mem_append_right _ (List.mem_append_right _ (List.mem_append_right _ (List.mem_append_right _ (List.mem_append_right _ (List.mem_append_right _ (List.mem_append_right _ (List.mem_append_right _ (List.mem_append_right _ (List.mem_append_right _ (List.mem_append_right _ (List.mem_append_right _ (List.mem_append_right _ (List.mem_append_right _ (List.mem_append_right _ (List.mem_append_right _ (List.mem_append_right _ (List.mem_append_right _ (List.mem_append_right _ (List.mem_append_right _ (List.mem_append_right _ (List.mem_append_right _ (List.mem_append_right _ (List.mem_append_right _ (List.mem_append_right _ (List.mem_append_right _ (List.mem_append_right _ (List.mem_append_left _ h))))))))))))))))))))))))))))))))))))))))))))))))))
theorem inr38 : ∀ w ∈ wsL_law_r38, w ∈ wsL_law := fun _ h => List.mem_append_left _ (List.mem_append_left _ (List.mem_append_left _ (List.mem_append_left _ (List.mem_append_left _ (List.mem_append_left _ (List.mem_append_left _ (List.mem_append_left _ (List.mem_append_left _ (List.mem_append_left _ (List.mem_append_left _ (List.mem_append_left _ (List.mem_append_left _ (List.mem_append_left _ (List.mem_append_right _ (List.mem_append_right _ (List.mem_append_right _ (List.mem_append_right _ (List.mem_append_right _ (List.mem_append_right _ (List.mem_append_right _ (List.mem_append_right _ (List.mem_append_right _ (List.mem_append_right _ (List.mem_append_right _ (List.mem_append_right _ (List.mem_append_right _ (List.mem_append_right _ (List.mem_append_right _ (List.mem_append_right _ (List.mem_append_right _ (List.mem_append_right _ (List.mem_append_right _ (List.mem_append_right _ (List.mem_append_right _ (List.mem_append_right _ (List.mem_append_right _ (List.mem_append_right _ (List.mem_append_right _ (List.mem_append_right _ (List.mem_append_right _ (List.mem_append_right _ (List.mem_append_right _ (List.mem_append_right _ (List.mem_append_right _ (List.mem_append_right _ (List.mem_append_right _ (List.mem_append_right _ (List.mem_append_right _ (List.mem_append_right _ (List.mem_append_right _ (List.mem_append_left _ h)))))))))))))))))))))))))))))))))))))))))))))))))))
theorem inr39 : ∀ w ∈ wsL_law_r39, w ∈ wsL_law := fun _ h => List.mem_append_left _ (List.mem_append_left _ (List.mem_append_left _ (List.mem_append_left _ (List.mem_append_left _ (List.mem_append_left _ (List.mem_append_left _ (List.mem_append_left _ (List.mem_append_left _ (List.mem_append_left _ (List.mem_append_left _ (List.mem_append_left _ (List.mem_append_left _ (List.mem_append_left _ (List.mem_append_right _ (List.mem_append_right _ (List.mem_append_right _ (List.mem_append_right _ (List.mem_append_right _ (List.mem_append_right _ (List.mem_append_right _ (List.mem_append_right _ (List.mem_append_right _ (List.mem_append_right _ (List.mem_append_right _ (List.mem_append_right _ (List.mem_append_right _ (List.mem_append_right _ (List.mem_append_right _ (List.mem_append_right _ (List.mem_append_right _ (List.mem_append_right _ (List.mem_append_right _ (List.mem_append_right _ (List.mem_append_right _ (List.mem_append_right _ (List.mem_append_right _ (List.mem_append_right _ (List.mem_append_right _ (List.mem_append_right _ (List.mem_append_right _ (List.mem_append_right _ (List.mem_append_right _ (List.mem_append_right _ (List.mem_append_right _ (List.mem_append_right _ (List.mem_append_right _ (List.mem_append_right _ (List.mem_append_right _ (List.mem_append_right _ (List.mem_append_right _ (List.mem_append_right _ (List.mem_append_left _ h))))))))))))))))))))))))))))))))))))))))))))))))))))
theorem inr40 : ∀ w ∈ wsL_law_r40, w ∈ wsL_law := fun _ h => List.mem_append_left _ (List.mem_append_left _ (List.mem_append_left _ (List.mem_append_left _ (List.mem_append_left _ (List.mem_append_left _ (List.mem_append_left _ (List.mem_append_left _ (List.mem_append_left _ (List.mem_append_left _ (List.mem_append_left _ (List.mem_append_left _ (List.mem_append_left _ (List.mem_append_left _ (List.mem_append_right _ (List.mem_append_right _ (List.mem_append_right _ (List.mem_append_right _ (List.mem_append_right _ (List.mem_append_right _ (List.mem_append_right _ (List.mem_append_right _ (List.mem_append_right _ (List.mem_append_right _ (List.mem_append_right _ (List.mem_append_right _ (List.mem_append_right _ (List.mem_append_right _ (List.mem_append_right _ (List.mem_append_right _ (List.mem_append_right _ (List.mem_append_right _ (List.mem_append_right _ (List.mem_append_right _ (List.mem_append_right _ (List.mem_append_right _ (List.mem_append_right _ (List.mem_append_right _ (List.mem_append_right _ (List.mem_append_right _ (List.mem_append_right _ (List.mem_append_right _ (List.mem_append_right _ (List.mem_append_right _ (List.mem_append_right _ (List.mem_append_right _ (List.mem_append_right _ (List.mem_append_right _ (List.mem_append_right _ (List.mem_append_right _ (List.mem_append_right _ (List.mem_append_right _ (List.mem_append_right _ (List.mem_append_left _ h)))))))))))))))))))))))))))))))))))))))))))))))))))))
theorem inr41 : ∀ w ∈ wsL_law_r41, w ∈ wsL_law := fun _ h => List.mem_append_left _ (List.mem_append_left _ (List.mem_append_left _ (List.mem_append_left _ (List.mem_append_left _ (List.mem_append_left _ (List.mem_append_left _ (List.mem_append_left _ (List.mem_append_left _ (List.mem_append_left _ (List.mem_append_left _ (List.mem_append_left _ (List.mem_append_left _ (List.mem_append_left _ (List.mem_append_right _ (List.mem_append_right _ (List.mem_append_right _ (List.mem_append_right _ (List.mem_append_right _ (List.mem_append_right _ (List.mem_append_right _ (List.mem_append_right _ (List.mem_append_right _ (List.mem_append_right _ (List.mem_append_right _ (List.mem_append_right _ (List.mem_append_right _ (List.mem_append_right _ (List.mem_append_right _ (List.mem_append_right _ (List.mem_append_right _ (List.mem_append_right _ (List.mem_append_right _ (List.mem_append_right _ (List.mem_append_right _ (List.mem_append_right _ (List.mem_append_right _ (List.mem_append_right _ (List.mem_append_right _ (List.mem_append_right _ (List.mem_append_right _ (List.mem_append_right _ (List.mem_append_right _ (List.mem_append_right _ (List.mem_append_right _ (List.mem_append_right _ (List.mem_append_right _ (List.mem_append_right _ (List.mem_append_right _ (List.mem_append_right _ (List.mem_append_right _ (List.mem_append_right _ (List.mem_append_right _ (List.mem_append_right _ (List.mem_append_left _ h))))))))))))))))))))))))))))))))))))))))))))))))))))))
theorem inr42 : ∀ w ∈ wsL_law_r42, w ∈ wsL_law := fun _ h => List.mem_append_left _ (List.mem_append_left _ (List.mem_append_left _ (List.mem_append_left _ (List.mem_append_left _ (List.mem_append_left _ (List.mem_append_left _ (List.mem_append_left _ (List.mem_append_left _ (List.mem_append_left _ (List.mem_append_left _ (List.mem_append_left _ (List.mem_append_left _ (List.mem_append_left _ (List.mem_append_right _ (List.mem_append_right _ (List.mem_append_right _ (List.mem_append_right _ (List.mem_append_right _ (List.mem_append_right _ (List.mem_append_right _ (List.mem_append_right _ (List.mem_append_right _ (List.mem_append_right _ (List.mem_append_right _ (List.mem_append_right _ (List.mem_append_right _ (List.mem_append_right _ (List.mem_append_right _ (List.mem_append_right _ (List.mem_append_right _ (List.mem_append_right _ (List.mem_append_right _ (List.mem_append_right _ (List.mem_append_right _ (List.mem_append_right _ (List.mem_append_right _ (List.mem_append_right _ (List.mem_append_right _ (List.mem_append_right _ (List.mem_append_right _ (List.mem_append_right _ (List.mem_append_right _ (List.mem_append_right _ (List.mem_append_right _ (List.mem_append_right _ (List.mem_append_right _ (List.mem_append_right _ (List.mem_append_right _ (List.mem_append_right _ (List.mem_append_right _ (List.mem_append_right _ (List.mem_append_right _ (List.mem_append_right _ (List.mem_append_right _ (List.mem_append_left _ h)))))))))))))))))))))))))))))))))))))))))))))))))))))))
theorem inr43 : ∀ w ∈ wsL_law_r43, w ∈ wsL_law := fun _ h => List.mem_append_left _ (List.mem_append_left _ (List.mem_append_left _ (List.mem_append_left _ (List.mem_append_left _ (List.mem_append_left _ (List.mem_append_left _ (List.mem_append_left _ (List.mem_append_left _ (List.mem_append_left _ (List.mem_append_left _ (List.mem_append_left _ (List.mem_append_left _ (List.mem_append_left _ (List.mem_append_right _ (List.mem_append_right _ (List.mem_append_right _ (List.mem_append_right _ (List.mem_append_right _ (List.mem_append_right _ (List.mem_append_right _ (List.mem_append_right _ (List.mem_append_right _ (List.mem_append_right _ (List.mem_append_right _ (List.mem_append_right _ (List.mem_append_right _ (List.mem_append_right _ (List.mem_append_right _ (List.mem_append_right _ (List.mem_append_right _ (List.mem_append_right _ (List.mem_append_right _ (List.mem_append_right _ (List.mem_append_right _ (List.mem_append_right _ (List.mem_append_right _ (List.mem_append_right _ (List.mem_append_right _ (List.mem_append_right _ (List.mem_append_right _ (List.mem_append_right _ (List.mem_append_right _ (List.mem_append_right _ (List.mem_append_right _ (List.mem_append_right _ (List.mem_append_right _ (List.mem_append_right _ (List.mem_append_right _ (List.mem_append_right _ (List.mem_append_right _ (List.mem_append_right _ (List.mem_append_right _ (List.mem_append_right _ (List.mem_append_right _ (List.mem_append_right _ (List.mem_append_left _ h))))))))))))))))))))))))))))))))))))))))))))))))))))))))
theorem inr44 : ∀ w ∈ wsL_law_r44, w ∈ wsL_law := fun _ h => List.mem_append_left _ (List.mem_append_left _ (List.mem_append_left _ (List.mem_append_left _ (List.mem_append_left _ (List.mem_append_left _ (List.mem_append_left _ (List.mem_append_left _ (List.mem_append_left _ (List.mem_append_left _ (List.mem_append_left _ (List.mem_append_left _ (List.mem_append_left _ (List.mem_append_left _ (List.mem_append_right _ (List.mem_append_right _ (List.mem_append_right _ (List.mem_append_right _ (List.mem_append_right _ (List.mem_append_right _ (List.mem_append_right _ (List.mem_append_right _ (List.mem_append_right _ (List.mem_append_right _ (List.mem_append_right _ (List.mem_append_right _ (List.mem_append_right _ (List.mem_append_right _ (List.mem_append_right _ (List.mem_append_right _ (List.mem_append_right _ (List.mem_append_right _ (List.mem_append_right _ (List.mem_append_right _ (List.mem_append_right _ (List.mem_append_right _ (List.mem_append_right _ (List.mem_append_right _ (List.mem_append_right _ (List.mem_append_right _ (List.mem_append_right _ (List.mem_append_right _ (List.mem_append_right _ (List.mem_append_right _ (List.mem_append_right _ (List.mem_append_right _ (List.mem_append_right _ (List.mem_append_right _ (List.mem_append_right _ (List.mem_append_right _ (List.mem_append_right _ (List.mem_append_right _ (List.mem_append_right _ (List.mem_append_right _ (List.mem_append_right _ (List.mem_append_right _ (List.mem_append_right _ (List.mem_append_left _ h)))))))))))))))))))))))))))))))))))))))))))))))))))))))))
theorem inr45 : ∀ w ∈ wsL_law_r45, w ∈ wsL_law := fun _ h => List.mem_append_left _ (List.mem_append_left _ (List.mem_append_left _ (List.mem_append_left _ (List.mem_append_left _ (List.mem_append_left _ (List.mem_append_left _ (List.mem_append_left _ (List.mem_append_left _ (List.mem_append_left _ (List.mem_append_left _ (List.mem_append_left _ (List.mem_append_left _ (List.mem_append_left _ (List.mem_append_right _ (List.mem_append_right _ (List.mem_append_right _ (List.mem_append_right _ (List.mem_append_right _ (List.mem_append_right _ (List.mem_append_right _ (List.mem_append_right _ (List.mem_append_right _ (List.mem_append_right _ (List.mem_append_right _ (List.mem_append_right _ (List.mem_append_right _ (List.mem_append_right _ (List.mem_append_right _ (List.mem_append_right _ (List.mem_append_right _ (List.mem_append_right _ (List.mem_append_right _ (List.mem_append_right _ (List.mem_append_right _ (List.mem_append_right _ (List.mem_append_right _ (List.mem_append_right _ (List.mem_append_right _ (List.mem_append_right _ (List.mem_append_right _ (List.mem_append_right _ (List.mem_append_right _ (List.mem_append_right _ (List.mem_append_right _ (List.mem_append_right _ (List.mem_append_right _ (List.mem_append_right _ (List.mem_append_right _ (List.mem_append_right _ (List.mem_append_right _ (List.mem_append_right _ (List.mem_append_right _ (List.mem_append_right _ (List.mem_append_right _ (List.mem_append_right _ (List.mem_append_right _ (List.mem_append_right _ (List.mem_append_left _ h))))))))))))))))))))))))))))))))))))))))))))))))))))))))))
theorem inr46 : ∀ w ∈ wsL_law_r46, w ∈ wsL_law := fun _ h => List.mem_append_left _ (List.mem_append_left _ (List.mem_append_left _ (List.mem_append_left _ (List.mem_append_left _ (List.mem_append_left _ (List.mem_append_left _ (List.mem_append_left _ (List.mem_append_left _ (List.mem_append_left _ (List.mem_append_left _ (List.mem_append_left _ (List.mem_append_left _ (List.mem_append_left _ (List.mem_append_right _ (List.mem_append_right _ (List.mem_append_right _ (List.mem_append_right _ (List.mem_append_right _ (List.mem_append_right _ (List.mem_append_right _ (List.mem_append_right _ (List.mem_append_right _ (List.mem_append_right _ (List.mem_append_right _ (List.mem_append_right _ (List.mem_append_right _ (List.mem_append_right _ (List.mem_append_right _ (List.mem_append_right _ (List.mem_append_right _ (List.mem_append_right _ (List.mem_append_right _ (List.mem_append_right _ (List.mem_append_right _ (List.mem_append_right _ (List.mem_append_right _ (List.mem_append_right _ (List.mem_append_right _ (List.mem_append_right _ (List.mem_append_right _ (List.mem_append_right _ (List.mem_append_right _ (List.mem_append_right _ (List.mem_append_right _ (List.mem_append_right _ (List.mem_append_right _ (List.mem_append_right _ (List.mem_append_right _ (List.mem_append_right _ (List.mem_append_right _ (List.mem_append_right _ (List.mem_append_right _ (List.mem_append_right _ (List.mem_append_right _ (List.mem_append_right _ (List.mem_append_right _ (List.mem_append_right _ (List.mem_append_right _ (List.mem_append_left _ h)))))))))))))))))))))))))))))))))))))))))))))))))))))))))))
theorem inr47 : ∀ w ∈ wsL_law_r47, w ∈ wsL_law := fun _ h => List.mem_append_left _ (List.mem_append_left _ (List.mem_append_left _ (List.mem_append_left _ (List.mem_append_left _ (List.mem_append_left _ (List.mem_append_left _ (List.mem_append_left _ (List.mem_append_left _ (List.mem_append_left _ (List.mem_append_left _ (List.mem_append_left _ (List.mem_append_left _ (List.mem_append_left _ (List.mem_append_right _ (List.mem_append_right _ (List.mem_append_right _ (List.mem_append_right _ (List.mem_append_right _ (List.mem_append_right _ (List.mem_append_right _ (List.mem_append_right _ (List.mem_append_right _ (List.mem_append_right _ (List.mem_append_right _ (List.mem_append_right _ (List.mem_append_right _ (List.mem_append_right _ (List.mem_append_right _ (List.mem_append_right _ (List.mem_append_right _ (List.mem_append_right _ (List.mem_append_right _ (List.mem_append_right _ (List.mem_append_right _ (List.mem_append_right _ (List.mem_append_right _ (List.mem_append_right _ (List.mem_append_right _ (List.mem_append_right _ (List.mem_append_right _ (List.mem_append_right _ (List.mem_append_right _ (List.mem_append_right _ (List.mem_append_right _ (List.mem_append_right _ (List.mem_append_right _ (List.mem_append_right _ (List.mem_append_right _ (List.mem_append_right _ (List.mem_append_right _ (List.mem_append_right _ (List.mem_append_right _ (List.mem_append_right _ (List.mem_append_right _ (List.mem_append_right _ (List.mem_append_right _ (List.mem_append_right _ (List.mem_append_right _ (List.mem_append_right _ (List.mem_append_left _ h))))))))))))))))))))))))))))))))))))))))))))))))))))))))))))
theorem inr48 : ∀ w ∈ wsL_law_r48, w ∈ wsL_law := fun _ h => List.mem_append_left _ (List.mem_append_left _ (List.mem_append_left _ (List.mem_append_left _ (List.mem_append_left _ (List.mem_append_left _ (List.mem_append_left _ (List.mem_append_left _ (List.mem_append_left _ (List.mem_append_left _ (List.mem_append_left _ (List.mem_append_left _ (List.mem_append_left _ (List.mem_append_left _ (List.mem_append_right _ (List.mem_append_right _ (List.mem_append_right _ (List.mem_append_right _ (List.mem_append_right _ (List.mem_append_right _ (List.mem_append_right _ (List.mem_append_right _ (List.mem_append_right _ (List.mem_append_right _ (List.mem_append_right _ (List.mem_append_right _ (List.mem_append_right _ (List.mem_append_right _ (List.mem_append_right _ (List.mem_append_right _ (List.mem_append_right _ (List.mem_append_right _ (List.mem_append_right _ (List.mem_append_right _ (List.mem_append_right _ (List.mem_append_right _ (List.mem_append_right _ (List.mem_append_right _ (List.mem_append_right _ (List.mem_append_right _ (List.mem_append_right _ (List.mem_append_right _ (List.mem_append_right _ (List.mem_append_right _ (List.mem_append_right _ (List.mem_append_right _ (List.mem_append_right _ (List.mem_append_right _ (List.mem_append_right _ (List.mem_append_right _ (List.mem_append_right _ (List.mem_append_right _ (List.mem_append_right _ (List.mem_append_right _ (List.mem_append_right _ (List.mem_append_right _ (List.mem_append_right _ (List.mem_append_right _ (List.mem_append_right _ (List.mem_append_right _ (List.mem_append_right _ (List.mem_append_left _ h)))))))))))))))))))))))))))))))))))))))))))))))))))))))))))))
theorem inr49 : ∀ w ∈ wsL_law_r49, w ∈ wsL_law := fun _ h => List.mem_append_left _ (List.mem_append_left _ (List.mem_append_left _ (List.mem_append_left _ (List.mem_append_left _ (List.mem_append_left _ (List.mem_append_left _ (List.mem_append_left _ (List.mem_append_left _ (List.mem_append_left _ (List.mem_append_left _ (List.mem_append_left _ (List.mem_append_left _ (List.mem_append_left _ (List.mem_append_right _ (List.mem_append_right _ (List.mem_append_right _ (List.mem_append_right _ (List.mem_append_right _ (List.mem_append_right _ (List.mem_append_right _ (List.mem_append_right _ (List.mem_append_right _ (List.mem_append_right _ (List.mem_append_right _ (List.mem_append_right _ (List.mem_append_right _ (List.mem_append_right _ (List.mem_append_right _ (List.mem_append_right _ (List.mem_append_right _ (List.mem_append_right _ (List.mem_append_right _ (List.mem_append_right _ (List.mem_append_right _ (List.mem_append_right _ (List.mem_append_right _ (List.mem_append_right _ (List.mem_append_right _ (List.mem_append_right _ (List.mem_append_right _ (List.mem_append_right _ (List.mem_append_right _ (List.mem_append_right _ (List.mem_append_right _ (List.mem_append_right _ (List.mem_append_right _ (List.mem_append_right _ (List.mem_append_right _ (List.mem_append_right _ (List.mem_append_right _ (List.mem_append_right _ (List.mem_append_right _ (List.mem_append_right _ (List.mem_append_right _ (List.mem_append_right _ (List.mem_append_right _ (List.mem_append_right _ (List.mem_append_right _ (List.mem_append_right _ (List.mem_append_right _ (List.mem_append_right _ (List.mem_append_left _ h))))))))))))))))))))))))))))))))))))))))))))))))))))))))))))))
theorem inr50 : ∀ w ∈ wsL_law_r50, w ∈ wsL_law := fun _ h => List.mem_append_left _ (List.mem_append_left _ (List.mem_append_left _ (List.mem_append_left _ (List.mem_append_left _ (List.mem_append_left _ (List.mem_append_left _ (List.mem_append_left _ (List.mem_append_left _ (List.mem_append_left _ (List.mem_append_left _ (List.mem_append_left _ (List.mem_append_left _ (List.mem_append_left _ (List.mem_append_right _ (List.mem_append_right _ (List.mem_append_right _ (List.mem_append_right _ (List.mem_append_right _ (List.mem_append_right _ (List.mem_append_right _ (List.mem_append_right _ (List.mem_append_right _ (List.mem_append_right _ (List.mem_append_right _ (List.mem_append_right _ (List.mem_append_right _ (List.mem_append_right _ (List.mem_append_right _ (List.mem_append_right _ (List.mem_append_right _ (List.mem_append_right _ (List.mem_append_right _ (List.mem_append_right _ (List.mem_append_right _ (List.mem_append_right _ (List.mem_append_right _ (List.mem_append_right _ (List.mem_append_right _ (List.mem_append_right _ (List.mem_append_right _ (List.mem_append_right _ (List.mem_append_right _ (List.mem_append_right _ (List.mem_append_right _ (List.mem_append_right _ (List.mem_append_right _ (List.mem_append_right _ (List.mem_append_right _ (List.mem_append_right _ (List.mem_append_right _ (List.mem_append_right _ (List.mem_append_right _ (List.mem_append_right _ (List.mem_append_right _ (List.mem_append_right _ (List.mem_append_right _ (List.mem_append_right _ (List.mem_append_right _ (List.mem_append_right _ (List.mem_append_right _ (List.mem_append_right _ (List.mem_append_right _ (List.mem_append_left _ h)))))))))))))))))))))))))))))))))))))))))))))))))))))))))))))))
theorem inr51 : ∀ w ∈ wsL_law_r51, w ∈ wsL_law := fun _ h => List.mem_append_left _ (List.mem_append_left _ (List.mem_append_left _ (List.mem_append_left _ (List.mem_append_left _ (List.mem_append_left _ (List.mem_append_left _ (List.mem_append_left _ (List.mem_append_left _ (List.mem_append_left _ (List.mem_append_left _ (List.mem_append_left _ (List.mem_append_left _ (List.mem_append_left _ (List.mem_append_right _ (List.mem_append_right _ (List.mem_append_right _ (List.mem_append_right _ (List.mem_append_right _ (List.mem_append_right _ (List.mem_append_right _ (List.mem_append_right _ (List.mem_append_right _ (List.mem_append_right _ (List.mem_append_right _ (List.mem_append_right _ (List.mem_append_right _ (List.mem_append_right _ (List.mem_append_right _ (List.mem_append_right _ (List.mem_append_right _ (List.mem_append_right _ (List.mem_append_right _ (List.mem_append_right _ (List.mem_append_right _ (List.mem_append_right _ (List.mem_append_right _ (List.mem_append_right _ (List.mem_append_right _ (List.mem_append_right _ (List.mem_append_right _ (List.mem_append_right _ (List.mem_append_right _ (List.mem_append_right _ (List.mem_append_right _ (List.mem_append_right _ (List.mem_append_right _ (List.mem_append_right _ (List.mem_append_right _ (List.mem_append_right _ (List.mem_append_right _ (List.mem_append_right _ (List.mem_append_right _ (List.mem_append_right _ (List.mem_append_right _ (List.mem_append_right _ (List.mem_append_right _ (List.mem_append_right _ (List.mem_append_right _ (List.mem_append_right _ (List.mem_append_right _ (List.mem_append_right _ (List.mem_append_right _ (List.mem_append_right _ (List.mem_append_left _ h))))))))))))))))))))))))))))))))))))))))))))))))))))))))))))))))
theorem inr52 : ∀ w ∈ wsL_law_r52, w ∈ wsL_law := fun _ h => List.mem_append_left _ (List.mem_append_left _ (List.mem_append_left _ (List.mem_append_left _ (List.mem_append_left _ (List.mem_append_left _ (List.mem_append_left _ (List.mem_append_left _ (List.mem_append_left _ (List.mem_append_left _ (List.mem_append_left _ (List.mem_append_left _ (List.mem_append_left _ (List.mem_append_left _ (List.mem_append_right _ (List.mem_append_right _ (List.mem_append_right _ (List.mem_append_right _ (List.mem_append_right _ (List.mem_append_right _ (List.mem_append_right _ (List.mem_append_right _ (List.mem_append_right _ (List.mem_append_right _ (List.mem_append_right _ (List.mem_append_right _ (List.mem_append_right _ (List.mem_append_right _ (List.mem_append_right _ (List.mem_append_right _ (List.mem_append_right _ (List.mem_append_right _ (List.mem_append_right _ (List.mem_append_right _ (List.mem_append_right _ (List.mem_append_right _ (List.mem_append_right _ (List.mem_append_right _ (List.mem_append_right _ (List.mem_append_right _ (List.mem_append_right _ (List.mem_append_right _ (List.mem_append_right _ (List.mem_append_right _ (List.mem_append_right _ (List.mem_append_right _ (List.mem_append_right _ (List.mem_append_right _ (List.mem_append_right _ (List.mem_append_right _ (List.mem_append_right _ (List.mem_append_right _ (List.mem_append_right _ (List.mem_append_right _ (List.mem_append_right _ (List.mem_append_right _ (List.mem_append_right _ (List.mem_append_right _ (List.mem_append_right _ (List.mem_append_right _ (List.mem_append_right _ (List.mem_append_right _ (List.mem_append_right _ (List.mem_append_right _ (List.mem_append_right _ (List.mem_append_left _ h)))))))))))))))))))))))))))))))))))))))))))))))))))))))))))))))))
theorem inr53 : ∀ w ∈ wsL_law_r53, w ∈ wsL_law := fun _ h => List.mem_append_left _ (List.mem_append_left _ (List.mem_append_left _ (List.mem_append_left _ (List.mem_append_left _ (List.mem_append_left _ (List.mem_append_left _ (List.mem_append_left _ (List.mem_append_left _ (List.mem_append_left _ (List.mem_append_left _ (List.mem_append_left _ (List.mem_append_left _ (List.mem_append_left _ (List.mem_append_right _ (List.mem_append_right _ (List.mem_append_right _ (List.mem_append_right _ (List.mem_append_right _ (List.mem_append_right _ (List.mem_append_right _ (List.mem_append_right _ (List.mem_append_right _ (List.mem_append_right _ (List.mem_append_right _ (List.mem_append_right _ (List.mem_append_right _ (List.mem_append_right _ (List.mem_append_right _ (List.mem_append_right _ (List.mem_append_right _ (List.mem_append_right _ (List.mem_append_right _ (List.mem_append_right _ (List.mem_append_right _ (List.mem_append_right _ (List.mem_append_right _ (List.mem_append_right _ (List.mem_append_right _ (List.mem_append_right _ (List.mem_append_right _ (List.mem_append_right _ (List.mem_append_right _ (List.mem_append_right _ (List.mem_append_right _ (List.mem_append_right _ (List.mem_append_right _ (List.mem_append_right _ (List.mem_append_right _ (List.mem_append_right _ (List.mem_append_right _ (List.mem_append_right _ (List.mem_append_right _ (List.mem_append_right _ (List.mem_append_right _ (List.mem_append_right _ (List.mem_append_right _ (List.mem_append_right _ (List.mem_append_right _ (List.mem_append_right _ (List.mem_append_right _ (List.mem_append_right _ (List.mem_append_right _ (List.mem_append_right _ (List.mem_append_right _ (List.mem_append_right _ (List.mem_append_left _ h))))))))))))))))))))))))))))))))))))))))))))))))))))))))))))))))))
theorem inr54 : ∀ w ∈ wsL_law_r54, w ∈ wsL_law := fun _ h => List.mem_append_left _ (List.mem_append_left _ (List.mem_append_left _ (List.mem_append_left _ (List.mem_append_left _ (List.mem_append_left _ (List.mem_append_left _ (List.mem_append_left _ (List.mem_append_left _ (List.mem_append_left _ (List.mem_append_left _ (List.mem_append_left _ (List.mem_append_left _ (List.mem_append_left _ (List.mem_append_right _ (List.mem_append_right _ (List.mem_append_right _ (List.mem_append_right _ (List.mem_append_right _ (List.mem_append_right _ (List.mem_append_right _ (List.mem_append_right _ (List.mem_append_right _ (List.mem_append_right _ (List.mem_append_right _ (List.mem_append_right _ (List.mem_append_right _ (List.mem_append_right _ (List.mem_append_right _ (List.mem_append_right _ (List.mem_append_right _ (List.mem_append_right _ (List.mem_append_right _ (List.mem_append_right _ (List.mem_append_right _ (List.mem_append_right _ (List.mem_append_right _ (List.mem_append_right _ (List.mem_append_right _ (List.mem_append_right _ (List.mem_append_right _ (List.mem_append_right _ (List.mem_append_right _ (List.mem_append_right _ (List.mem_append_right _ (List.mem_append_right _ (List.mem_append_right _ (List.mem_append_right _ (List.mem_append_right _ (List.mem_append_right _ (List.mem_append_right _ (List.mem_append_right _ (List.mem_append_right _ (List.mem_append_right _ (List.mem_append_right _ (List.mem_append_right _ (List.mem_append_right _ (List.mem_append_right _ (List.mem_append_right _ (List.mem_append_right _ (List.mem_append_right _ (List.mem_append_right _ (List.mem_append_right _ (List.mem_append_right _ (List.mem_append_right _ (List.mem_append_right _ (List.mem_append_right _ (List.mem_append_left _ h)))))))))))))))))))))))))))))))))))))))))))))))))))))))))))))))))))
theorem inr55 : ∀ w ∈ wsL_law_r55, w ∈ wsL_law := fun _ h => List.mem_append_left _ (List.mem_append_left _ (List.mem_append_left _ (List.mem_append_left _ (List.mem_append_left _ (List.mem_append_left _ (List.mem_append_left _ (List.mem_append_left _ (List.mem_append_left _ (List.mem_append_left _ (List.mem_append_left _ (List.mem_append_left _ (List.mem_append_left _ (List.mem_append_left _ (List.mem_append_right _ (List.mem_append_right _ (List.mem_append_right _ (List.mem_append_right _ (List.mem_append_right _ (List.mem_append_right _ (List.mem_append_right _ (List.mem_append_right _ (List.mem_append_right _ (List.mem_append_right _ (List.mem_append_right _ (List.mem_append_right _ (List.mem_append_right _ (List.mem_append_right _ (List.mem_append_right _ (List.mem_append_right _ (List.mem_append_right _ (List.mem_append_right _ (List.mem_append_right _ (List.mem_append_right _ (List.mem_append_right _ (List.mem_append_right _ (List.mem_append_right _ (List.mem_append_right _ (List.mem_append_right _ (List.mem_append_right _ (List.mem_append_right _ (List.mem_append_right _ (List.mem_append_right _ (List.mem_append_right _ (List.mem_append_right _ (List.mem_append_right _ (List.mem_append_right _ (List.mem_append_right _ (List.mem_append_right _ (List.mem_append_right _ (List.mem_append_right _ (List.mem_append_right _ (List.mem_append_right _ (List.mem_append_right _ (List.mem_append_right _ (List.mem_append_right _ (List.mem_append_right _ (List.mem_append_right _ (List.mem_append_right _ (List.mem_append_right _ (List.mem_append_right _ (List.mem_append_right _ (List.mem_append_right _ (List.mem_append_right _ (List.mem_append_right _ (List.mem_append_right _ (List.mem_append_right _ (List.mem_append_right _ (List.mem_append_left _ h))))))))))))))))))))))))))))))))))))))))))))))))))))))))))))))))))))
theorem inr56 : ∀ w ∈ wsL_law_r56, w ∈ wsL_law := fun _ h => List.mem_append_left _ (List.mem_append_left _ (List.mem_append_left _ (List.mem_append_left _ (List.mem_append_left _ (List.mem_append_left _ (List.mem_append_left _ (List.mem_append_left _ (List.mem_append_left _ (List.mem_append_left _ (List.mem_append_left _ (List.mem_append_left _ (List.mem_append_left _ (List.mem_append_left _ (List.mem_append_right _ (List.mem_append_right _ (List.mem_append_right _ (List.mem_append_right _ (List.mem_append_right _ (List.mem_append_right _ (List.mem_append_right _ (List.mem_append_right _ (List.mem_append_right _ (List.mem_append_right _ (List.mem_append_right _ (List.mem_append_right _ (List.mem_append_right _ (List.mem_append_right _ (List.mem_append_right _ (List.mem_append_right _ (List.mem_append_right _ (List.mem_append_right _ (List.mem_append_right _ (List.mem_append_right _ (List.mem_append_right _ (List.mem_append_right _ (List.mem_append_right _ (List.mem_append_right _ (List.mem_append_right _ (List.mem_append_right _ (List.mem_append_right _ (List.mem_append_right _ (List.mem_append_right _ (List.mem_append_right _ (List.mem_append_right _ (List.mem_append_right _ (List.mem_append_right _ (List.mem_append_right _ (List.mem_append_right _ (List.mem_append_right _ (List.mem_append_right _ (List.mem_append_right _ (List.mem_append_right _ (List.mem_append_right _ (List.mem_append_right _ (List.mem_append_right _ (List.mem_append_right _ (List.mem_append_right _ (List.mem_append_right _ (List.mem_append_right _ (List.mem_append_right _ (List.mem_append_right _ (List.mem_append_right _ (List.mem_append_right _ (List.mem_append_right _ (List.mem_append_right _ (List.mem_append_right _ (List.mem_append_right _ (List.mem_append_right _ (List.mem_append_left _ h)))))))))))))))))))))))))))))))))))))))))))))))))))))))))))))))))))))
theorem inr57 : ∀ w ∈ wsL_law_r57, w ∈ wsL_law := fun _ h => List.mem_append_left _ (List.mem_append_left _ (List.mem_append_left _ (List.mem_append_left _ (List.mem_append_left _ (List.mem_append_left _ (List.mem_append_left _ (List.mem_append_left _ (List.mem_append_left _ (List.mem_append_left _ (List.mem_append_left _ (List.mem_append_left _ (List.mem_append_left _ (List.mem_append_left _ (List.mem_append_right _ (List.mem_append_right _ (List.mem_append_right _ (List.mem_append_right _ (List.mem_append_right _ (List.mem_append_right _ (List.mem_append_right _ (List.mem_append_right _ (List.mem_append_right _ (List.mem_append_right _ (List.mem_append_right _ (List.mem_append_right _ (List.mem_append_right _ (List.mem_append_right _ (List.mem_append_right _ (List.mem_append_right _ (List.mem_append_right _ (List.mem_append_right _ (List.mem_append_right _ (List.mem_append_right _ (List.mem_append_right _ (List.mem_append_right _ (List.mem_append_right _ (List.mem_append_right _ (List.mem_append_right _ (List.mem_append_right _ (List.mem_append_right _ (List.mem_append_right _ (List.mem_append_right _ (List.mem_append_right _ (List.mem_append_right _ (List.mem_append_right _ (List.mem_append_right _ (List.mem_append_right _ (List.mem_append_right _ (List.mem_append_right _ (List.mem_append_right _ (List.mem_append_right _ (List.mem_append_right _ (List.mem_append_right _ (List.mem_append_right _ (List.mem_append_right _ (List.mem_append_right _ (List.mem_append_right _ (List.mem_append_right _ (List.mem_append_right _ (List.mem_append_right _ (List.mem_append_right _ (List.mem_append_right _ (List.mem_append_right _ (List.mem_append_right _ (List.mem_append_right _ (List.mem_append_right _ (List.mem_append_right _ (List.mem_append_right _ (List.mem_append_right _ (List.mem_append_left _ h))))))))))))))))))))))))))))))))))))))))))))))))))))))))))))))))))))))
theorem inr58 : ∀ w ∈ wsL_law_r58, w ∈ wsL_law := fun _ h => List.mem_append_left _ (List.mem_append_left _ (List.mem_append_left _ (List.mem_append_left _ (List.mem_append_left _ (List.mem_append_left _ (List.mem_append_left _ (List.mem_append_left _ (List.mem_append_left _ (List.mem_append_left _ (List.mem_append_left _ (List.mem_append_left _ (List.mem_append_left _ (List.mem_append_left _ (List.mem_append_right _ (List.mem_append_right _ (List.mem_append_right _ (List.mem_append_right _ (List.mem_append_right _ (List.mem_append_right _ (List.mem_append_right _ (List.mem_append_right _ (List.mem_append_right _ (List.mem_append_right _ (List.mem_append_right _ (List.mem_append_right _ (List.mem_append_right _ (List.mem_append_right _ (List.mem_append_right _ (List.mem_append_right _ (List.mem_append_right _ (List.mem_append_right _ (List.mem_append_right _ (List.mem_append_right _ (List.mem_append_right _ (List.mem_append_right _ (List.mem_append_right _ (List.mem_append_right _ (List.mem_append_right _ (List.mem_append_right _ (List.mem_append_right _ (List.mem_append_right _ (List.mem_append_right _ (List.mem_append_right _ (List.mem_append_right _ (List.mem_append_right _ (List.mem_append_right _ (List.mem_append_right _ (List.mem_append_right _ (List.mem_append_right _ (List.mem_append_right _ (List.mem_append_right _ (List.mem_append_right _ (List.mem_append_right _ (List.mem_append_right _ (List.mem_append_right _ (List.mem_append_right _ (List.mem_append_right _ (List.mem_append_right _ (List.mem_append_right _ (List.mem_append_right _ (List.mem_append_right _ (List.mem_append_right _ (List.mem_append_right _ (List.mem_append_right _ (List.mem_append_right _ (List.mem_append_right _ (List.mem_append_right _ (List.mem_append_right _ (List.mem_append_right _ (List.mem_append_right _ (List.mem_append_left _ h)))))))))))))))))))))))))))))))))))))))))))))))))))))))))))))))))))))))
theorem inr59 : ∀ w ∈ wsL_law_r59, w ∈ wsL_law := fun _ h => List.mem_append_left _ (List.mem_append_left _ (List.mem_append_left _ (List.mem_append_left _ (List.mem_append_left _ (List.mem_append_left _ (List.mem_append_left _ (List.mem_append_left _ (List.mem_append_left _ (List.mem_append_left _ (List.mem_append_left _ (List.mem_append_left _ (List.mem_append_left _ (List.mem_append_left _ (List.mem_append_right _ (List.mem_append_right _ (List.mem_append_right _ (List.mem_append_right _ (List.mem_append_right _ (List.mem_append_right _ (List.mem_append_right _ (List.mem_append_right _ (List.mem_append_right _ (List.mem_append_right _ (List.mem_append_right _ (List.mem_append_right _ (List.mem_append_right _ (List.mem_append_right _ (List.mem_append_right _ (List.mem_append_right _ (List.mem_append_right _ (List.mem_append_right _ (List.mem_append_right _ (List.mem_append_right _ (List.mem_append_right _ (List.mem_append_right _ (List.mem_append_right _ (List.mem_append_right _ (List.mem_append_right _ (List.mem_append_right _ (List.mem_append_right _ (List.mem_append_right _ (List.mem_append_right _ (List.mem_append_right _ (List.mem_append_right _ (List.mem_append_right _ (List.mem_append_right _ (List.mem_append_right _ (List.mem_append_right _ (List.mem_append_right _ (List.mem_append_right _ (List.mem_append_right _ (List.mem_append_right _ (List.mem_append_right _ (List.mem_append_right _ (List.mem_append_right _ (List.mem_append_right _ (List.mem_append_right _ (List.mem_append_right _ (List.mem_append_right _ (List.mem_append_right _ (List.mem_append_right _ (List.mem_append_right _ (List.mem_append_right _ (List.mem_append_right _ (List.mem_append_right _ (List.mem_append_right _ (List.mem_append_right _ (List.mem_append_right _ (List.mem_append_right _ (List.mem_append_right _ (List.mem_append_right _ (List.mem_append_left _ h))))))))))))))))))))))))))))))))))))))))))))))))))))))))))))))))))))))))
theorem inr60 : ∀ w ∈ wsL_law_r60, w ∈ wsL_law := fun _ h => List.mem_append_left _ (List.mem_append_left _ (List.mem_append_left _ (List.mem_append_left _ (List.mem_append_left _ (List.mem_append_left _ (List.mem_append_left _ (List.mem_append_left _ (List.mem_append_left _ (List.mem_append_left _ (List.mem_append_left _ (List.mem_append_left _ (List.mem_append_left _ (List.mem_append_left _ (List.mem_append_right _ (List.mem_append_right _ (List.mem_append_right _ (List.mem_append_right _ (List.mem_append_right _ (List.mem_append_right _ (List.mem_append_right _ (List.mem_append_right _ (List.mem_append_right _ (List.mem_append_right _ (List.mem_append_right _ (List.mem_append_right _ (List.mem_append_right _ (List.mem_append_right _ (List.mem_append_right _ (List.mem_append_right _ (List.mem_append_right _ (List.mem_append_right _ (List.mem_append_right _ (List.mem_append_right _ (List.mem_append_right _ (List.mem_append_right _ (List.mem_append_right _ (List.mem_append_right _ (List.mem_append_right _ (List.mem_append_right _ (List.mem_append_right _ (List.mem_append_right _ (List.mem_append_right _ (List.mem_append_right _ (List.mem_append_right _ (List.mem_append_right _ (List.mem_append_right _ (List.mem_append_right _ (List.mem_append_right _ (List.mem_append_right _ (List.mem_append_right _ (List.mem_append_right _ (List.mem_append_right _ (List.mem_append_right _ (List.mem_append_right _ (List.mem_append_right _ (List.mem_append_right _ (List.mem_append_right _ (List.mem_append_right _ (List.mem_append_right _ (List.mem_append_right _ (List.mem_append_right _ (List.mem_append_right _ (List.mem_append_right _ (List.mem_append_right _ (List.mem_append_right _ (List.mem_append_right _ (List.mem_append_right _ (List.mem_append_right _ (List.mem_append_right _ (List.mem_append_right _ (List.mem_append_right _ (List.mem_append_right _ (List.mem_append_left _ h)))))))))))))))))))))))))))))))))))))))))))))))))))))))))))))))))))))))))
theorem inr61 : ∀ w ∈ wsL_law_r61, w ∈ wsL_law := fun _ h => List.mem_append_left _ (List.mem_append_left _ (List.mem_append_left _ (List.mem_append_left _ (List.mem_append_left _ (List.mem_append_left _ (List.mem_append_left _ (List.mem_append_left _ (List.mem_append_left _ (List.mem_append_left _ (List.mem_append_left _ (List.mem_append_left _ (List.mem_append_left _ (List.mem_append_left _ (List.mem_append_right _ (List.mem_append_right _ (List.mem_append_right _ (List.mem_append_right _ (List.mem_append_right _ (List.mem_append_right _ (List.mem_append_right _ (List.mem_append_right _ (List.mem_append_right _ (List.mem_append_right _ (List.mem_append_right _ (List.mem_append_right _ (List.mem_append_right _ (List.mem_append_right _ (List.mem_append_right _ (List.mem_append_right _ (List.mem_append_right _ (List.mem_append_right _ (List.mem_append_right _ (List.mem_append_right _ (List.mem_append_right _ (List.mem_append_right _ (List.mem_append_right _ (List.mem_append_right _ (List.mem_append_right _ (List.mem_append_right _ (List.mem_append_right _ (List.mem_append_right _ (List.mem_append_right _ (List.mem_append_right _ (List.mem_append_right _ (List.mem_append_right _ (List.mem_append_right _ (List.mem_append_right _ (List.mem_append_right _ (List.mem_append_right _ (List.mem_append_right _ (List.mem_append_right _ (List.mem_append_right _ (List.mem_append_right _ (List.mem_append_right _ (List.mem_append_right _ (List.mem_append_right _ (List.mem_append_right _ (List.mem_append_right _ (List.mem_append_right _ (List.mem_append_right _ (List.mem_append_right _ (List.mem_append_right _ (List.mem_append_right _ (List.mem_append_right _ (List.mem_append_right _ (List.mem_append_right _ (List.mem_append_right _ (List.mem_append_right _ (List.mem_append_right _ (List.mem_append_right _ (List.mem_append_right _ (List.mem_append_right _ (List.mem_append_right _ (List.mem_append_left _ h))))))))))))))))))))))))))))))))))))))))))))))))))))))))))))))))))))))))))
theorem inr62 : ∀ w ∈ wsL_law_r62, w ∈ wsL_law := fun _ h => List.mem_append_left _ (List.mem_append_left _ (List.mem_append_left _ (List.mem_append_left _ (List.mem_append_left _ (List.mem_append_left _ (List.mem_append_left _ (List.mem_append_left _ (List.mem_append_left _ (List.mem_append_left _ (List.mem_append_left _ (List.mem_append_left _ (List.mem_append_left _ (List.mem_append_left _ (List.mem_append_right _ (List.mem_append_right _ (List.mem_append_right _ (List.mem_append_right _ (List.mem_append_right _ (List.mem_append_right _ (List.mem_append_right _ (List.mem_append_right _ (List.mem_append_right _ (List.mem_append_right _ (List.mem_append_right _ (List.mem_append_right _ (List.mem_append_right _ (List.mem_append_right _ (List.mem_append_right _ (List.mem_append_right _ (List.mem_append_right _ (List.mem_append_right _ (List.mem_append_right _ (List.mem_append_right _ (List.mem_append_right _ (List.mem_append_right _ (List.mem_append_right _ (List.mem_append_right _ (List.mem_append_right _ (List.mem_append_right _ (List.mem_append_right _ (List.mem_append_right _ (List.mem_append_right _ (List.mem_append_right _ (List.mem_append_right _ (List.mem_append_right _ (List.mem_append_right _ (List.mem_append_right _ (List.mem_append_right _ (List.mem_append_right _ (List.mem_append_right _ (List.mem_append_right _ (List.mem_append_right _ (List.mem_append_right _ (List.mem_append_right _ (List.mem_append_right _ (List.mem_append_right _ (List.mem_append_right _ (List.mem_append_right _ (List.mem_append_right _ (List.mem_append_right _ (List.mem_append_right _ (List.mem_append_right _ (List.mem_append_right _ (List.mem_append_right _ (List.mem_append_right _ (List.mem_append_right _ (List.mem_append_right _ (List.mem_append_right _ (List.mem_append_right _ (List.mem_append_right _ (List.mem_append_right _ (List.mem_append_right _ (List.mem_append_right _ (List.mem_append_right _ (List.mem_append_left _ h)))))))))))))))))))))))))))))))))))))))))))))))))))))))))))))))))))))))))))
theorem inr63 : ∀ w ∈ wsL_law_r63, w ∈ wsL_law := fun _ h => List.mem_append_left _ (List.mem_append_left _ (List.mem_append_left _ (List.mem_append_left _ (List.mem_append_left _ (List.mem_append_left _ (List.mem_append_left _ (List.mem_append_left _ (List.mem_append_left _ (List.mem_append_left _ (List.mem_append_left _ (List.mem_append_left _ (List.mem_append_left _ (List.mem_append_left _ (List.mem_append_right _ (List.mem_append_right _ (List.mem_append_right _ (List.mem_append_right _ (List.mem_append_right _ (List.mem_append_right _ (List.mem_append_right _ (List.mem_append_right _ (List.mem_append_right _ (List.mem_append_right _ (List.mem_append_right _ (List.mem_append_right _ (List.mem_append_right _ (List.mem_append_right _ (List.mem_append_right _ (List.mem_append_right _ (List.mem_append_right _ (List.mem_append_right _ (List.mem_append_right _ (List.mem_append_right _ (List.mem_append_right _ (List.mem_append_right _ (List.mem_append_right _ (List.mem_append_right _ (List.mem_append_right _ (List.mem_append_right _ (List.mem_append_right _ (List.mem_append_right _ (List.mem_append_right _ (List.mem_append_right _ (List.mem_append_right _ (List.mem_append_right _ (List.mem_append_right _ (List.mem_append_right _ (List.mem_append_right _ (List.mem_append_right _ (List.mem_append_right _ (List.mem_append_right _ (List.mem_append_right _ (List.mem_append_right _ (List.mem_append_right _ (List.mem_append_right _ (List.mem_append_right _ (List.mem_append_right _ (List.mem_append_right _ (List.mem_append_right _ (List.mem_append_right _ (List.mem_append_right _ (List.mem_append_right _ (List.mem_append_right _ (List.mem_append_right _ (List.mem_append_right _ (List.mem_append_right _ (List.mem_append_right _ (List.mem_append_right _ (List.mem_append_right _ (List.mem_append_right _ (List.mem_append_right _ (List.mem_append_right _ (List.mem_append_right _ (List.mem_append_right _ (List.mem_append_right _ (List.mem_append_left _ h))))))))))))))))))))))))))))))))))))))))))))))))))))))))))))))))))))))))))))
theorem inr64 : ∀ w ∈ wsL_law_r64, w ∈ wsL_law := fun _ h => List.mem_append_left _ (List.mem_append_left _ (List.mem_append_left _ (List.mem_append_left _ (List.mem_append_left _ (List.mem_append_left _ (List.mem_append_left _ (List.mem_append_left _ (List.mem_append_left _ (List.mem_append_left _ (List.mem_append_left _ (List.mem_append_left _ (List.mem_append_left _ (List.mem_append_left _ (List.mem_append_right _ (List.mem_append_right _ (List.mem_append_right _ (List.mem_append_right _ (List.mem_append_right _ (List.mem_append_right _ (List.mem_append_right _ (List.mem_append_right _ (List.mem_append_right _ (List.mem_append_right _ (List.mem_append_right _ (List.mem_append_right _ (List.mem_append_right _ (List.mem_append_right _ (List.mem_append_right _ (List.mem_append_right _ (List.mem_append_right _ (List.mem_append_right _ (List.mem_append_right _ (List.mem_append_right _ (List.mem_append_right _ (List.mem_append_right _ (List.mem_append_right _ (List.mem_append_right _ (List.mem_append_right _ (List.mem_append_right _ (List.mem_append_right _ (List.mem_append_right _ (List.mem_append_right _ (List.mem_append_right _ (List.mem_append_right _ (List.mem_append_right _ (List.mem_append_right _ (List.mem_append_right _ (List.mem_append_right _ (List.mem_append_right _ (List.mem_append_right _ (List.mem_append_right _ (List.mem_append_right _ (List.mem_append_right _ (List.mem_append_right _ (List.mem_append_right _ (List.mem_append_right _ (List.mem_append_right _ (List.mem_append_right _ (List.mem_append_right _ (List.mem_append_right _ (List.mem_append_right _ (List.mem_append_right _ (List.mem_append_right _ (List.mem_append_right _ (List.mem_append_right _ (List.mem_append_right _ (List.mem_append_right _ (List.mem_append_right _ (List.mem_append_right _ (List.mem_append_right _ (List.mem_append_right _ (List.mem_append_right _ (List.mem_append_right _ (List.mem_append_right _ (List.mem_append_right _ (List.mem_append_right _ (List.mem_append_left _ h)))))))))))))))))))))))))))))))))))))))))))))))))))))))))))))))))))))))))))))
theorem inr65 : ∀ w ∈ wsL_law_r65, w ∈ wsL_law := fun _ h => List.mem_append_left _ (List.mem_append_left _ (List.mem_append_left _ (List.mem_append_left _ (List.mem_append_left _ (List.mem_append_left _ (List.mem_append_left _ (List.mem_append_left _ (List.mem_append_left _ (List.mem_append_left _ (List.mem_append_left _ (List.mem_append_left _ (List.mem_append_left _ (List.mem_append_left _ (List.mem_append_right _ (List.mem_append_right _ (List.mem_append_right _ (List.mem_append_right _ (List.mem_append_right _ (List.mem_append_right _ (List.mem_append_right _ (List.mem_append_right _ (List.mem_append_right _ (List.mem_append_right _ (List.mem_append_right _ (List.mem_append_right _ (List.mem_append_right _ (List.mem_append_right _ (List.mem_append_right _ (List.mem_append_right _ (List.mem_append_right _ (List.mem_append_right _ (List.mem_append_right _ (List.mem_append_right _ (List.mem_append_right _ (List.mem_append_right _ (List.mem_append_right _ (List.mem_append_right _ (List.mem_append_right _ (List.mem_append_right _ (List.mem_append_right _ (List.mem_append_right _ (List.mem_append_right _ (List.mem_append_right _ (List.mem_append_right _ (List.mem_append_right _ (List.mem_append_right _ (List.mem_append_right _ (List.mem_append_right _ (List.mem_append_right _ (List.mem_append_right _ (List.mem_append_right _ (List.mem_append_right _ (List.mem_append_right _ (List.mem_append_right _ (List.mem_append_right _ (List.mem_append_right _ (List.mem_append_right _ (List.mem_append_right _ (List.mem_append_right _ (List.mem_append_right _ (List.mem_append_right _ (List.mem_append_right _ (List.mem_append_right _ (List.mem_append_right _ (List.mem_append_right _ (List.mem_append_right _ (List.mem_append_right _ (List.mem_append_right _ (List.mem_append_right _ (List.mem_append_right _ (List.mem_append_right _ (List.mem_append_right _ (List.mem_append_right _ (List.mem_append_right _ (List.mem_append_right _ (List.mem_append_right _ (List.mem_append_right _ (List.mem_append_left _ h))))))))))))))))))))))))))))))))))))))))))))))))))))))))))))))))))))))))))))))
theorem inr66 : ∀ w ∈ wsL_law_r66, w ∈ wsL_law := fun _ h => List.mem_append_left _ (List.mem_append_left _ (List.mem_append_left _ (List.mem_append_left _ (List.mem_append_left _ (List.mem_append_left _ (List.mem_append_left _ (List.mem_append_left _ (List.mem_append_left _ (List.mem_append_left _ (List.mem_append_left _ (List.mem_append_left _ (List.mem_append_left _ (List.mem_append_left _ (List.mem_append_right _ (List.mem_append_right _ (List.mem_append_right _ (List.mem_append_right _ (List.mem_append_right _ (List.mem_append_right _ (List.mem_append_right _ (List.mem_append_right _ (List.mem_append_right _ (List.mem_append_right _ (List.mem_append_right _ (List.mem_append_right _ (List.mem_append_right _ (List.mem_append_right _ (List.mem_append_right _ (List.mem_append_right _ (List.mem_append_right _ (List.mem_append_right _ (List.mem_append_right _ (List.mem_append_right _ (List.mem_append_right _ (List.mem_append_right _ (List.mem_append_right _ (List.mem_append_right _ (List.mem_append_right _ (List.mem_append_right _ (List.mem_append_right _ (List.mem_append_right _ (List.mem_append_right _ (List.mem_append_right _ (List.mem_append_right _ (List.mem_append_right _ (List.mem_append_right _ (List.mem_append_right _ (List.mem_append_right _ (List.mem_append_right _ (List.mem_append_right _ (List.mem_append_right _ (List.mem_append_right _ (List.mem_append_right _ (List.mem_append_right _ (List.mem_append_right _ (List.mem_append_right _ (List.mem_append_right _ (List.mem_append_right _ (List.mem_append_right _ (List.mem_append_right _ (List.mem_append_right _ (List.mem_append_right _ (List.mem_append_right _ (List.mem_append_right _ (List.mem_append_right _ (List.mem_append_right _ (List.mem_append_right _ (List.mem_append_right _ (List.mem_append_right _ (List.mem_append_right _ (List.mem_append_right _ (List.mem_append_right _ (List.mem_append_right _ (List.mem_append_right _ (List.mem_append_right _ (List.mem_append_right _ (List.mem_append_right _ (List.mem_append_right _ (List.mem_append_left _ h)))))))))))))))))))))))))))))))))))))))))))))))))))))))))))))))))))))))))))))))
theorem inr67 : ∀ w ∈ wsL_law_r67, w ∈ wsL_law := fun _ h => List.mem_append_left _ (List.mem_append_left _ (List.mem_append_left _ (List.mem_append_left _ (List.mem_append_left _ (List.mem_append_left _ (List.mem_append_left _ (List.mem_append_left _ (List.mem_append_left _ (List.mem_append_left _ (List.mem_append_left _ (List.mem_append_left _ (List.mem_append_left _ (List.mem_append_left _ (List.mem_append_right _ (List.mem_append_right _ (List.mem_append_right _ (List.mem_append_right _ (List.mem_append_right _ (List.mem_append_right _ (List.mem_append_right _ (List.mem_append_right _ (List.mem_append_right _ (List.mem_append_right _ (List.mem_append_right _ (List.mem_append_right _ (List.mem_append_right _ (List.mem_append_right _ (List.mem_append_right _ (List.mem_append_right _ (List.mem_append_right _ (List.mem_append_right _ (List.mem_append_right _ (List.mem_append_right _ (List.mem_append_right _ (List.mem_append_right _ (List.mem_append_right _ (List.mem_append_right _ (List.mem_append_right _ (List.mem_append_right _ (List.mem_append_right _ (List.mem_append_right _ (List.mem_append_right _ (List.mem_append_right _ (List.mem_append_right _ (List.mem_append_right _ (List.mem_append_right _ (List.mem_append_right _ (List.mem_append_right _ (List.mem_append_right _ (List.mem_append_right _ (List.mem_append_right _ (List.mem_append_right _ (List.mem_append_right _ (List.mem_append_right _ (List.mem_append_right _ (List.mem_append_right _ (List.mem_append_right _ (List.mem_append_right _ (List.mem_append_right _ (List.mem_append_right _ (List.mem_append_right _ (List.mem_append_right _ (List.mem_append_right _ (List.mem_append_right _ (List.mem_append_right _ (List.mem_append_right _ (List.mem_append_right _ (List.mem_append_right _ (List.mem_append_right _ (List.mem_append_right _ (List.mem_append_right _ (List.mem_append_right _ (List.mem_append_right _ (List.mem_append_right _ (List.mem_append_right _ (List.mem_append_right _ (List.mem_append_right _ (List.mem_append_right _ (List.mem_append_right _ (List.mem_append_left _ h))))))))))))))))))))))))))))))))))))))))))))))))))))))))))))))))))))))))))))))))
theorem inr68 : ∀ w ∈ wsL_law_r68, w ∈ wsL_law := fun _ h => List.mem_append_left _ (List.mem_append_left _ (List.mem_append_left _ (List.mem_append_left _ (List.mem_append_left _ (List.mem_append_left _ (List.mem_append_left _ (List.mem_append_left _ (List.mem_append_left _ (List.mem_append_left _ (List.mem_append_left _ (List.mem_append_left _ (List.mem_append_left _ (List.mem_append_left _ (List.mem_append_right _ (List.mem_append_right _ (List.mem_append_right _ (List.mem_append_right _ (List.mem_append_right _ (List.mem_append_right _ (List.mem_append_right _ (List.mem_append_right _ (List.mem_append_right _ (List.mem_append_right _ (List.mem_append_right _ (List.mem_append_right _ (List.mem_append_right _ (List.mem_append_right _ (List.mem_append_right _ (List.mem_append_right _ (List.mem_append_right _ (List.mem_append_right _ (List.mem_append_right _ (List.mem_append_right _ (List.mem_append_right _ (List.mem_append_right _ (List.mem_append_right _ (List.mem_append_right _ (List.mem_append_right _ (List.mem_append_right _ (List.mem_append_right _ (List.mem_append_right _ (List.mem_append_right _ (List.mem_append_right _ (List.mem_append_right _ (List.mem_append_right _ (List.mem_append_right _ (List.mem_append_right _ (List.mem_append_right _ (List.mem_append_right _ (List.mem_append_right _ (List.mem_append_right _ (List.mem_append_right _ (List.mem_append_right _ (List.mem_append_right _ (List.mem_append_right _ (List.mem_append_right _ (List.mem_append_right _ (List.mem_append_right _ (List.mem_append_right _ (List.mem_append_right _ (List.mem_append_right _ (List.mem_append_right _ (List.mem_append_right _ (List.mem_append_right _ (List.mem_append_right _ (List.mem_append_right _ (List.mem_append_right _ (List.mem_append_right _ (List.mem_append_right _ (List.mem_append_right _ (List.mem_append_right _ (List.mem_append_right _ (List.mem_append_right _ (List.mem_append_right _ (List.mem_append_right _ (List.mem_append_right _ (List.mem_append_right _ (List.mem_append_right _ (List.mem_append_right _ (List.mem_append_right _ (List.mem_append_left _ h)))))))))))))))))))))))))))))))))))))))))))))))))))))))))))))))))))))))))))))))))
theorem inr69 : ∀ w ∈ wsL_law_r69, w ∈ wsL_law := fun _ h => List.mem_append_left _ (List.mem_append_left _ (List.mem_append_left _ (List.mem_append_left _ (List.mem_append_left _ (List.mem_append_left _ (List.mem_append_left _ (List.mem_append_left _ (List.mem_append_left _ (List.mem_append_left _ (List.mem_append_left _ (List.mem_append_left _ (List.mem_append_left _ (List.mem_append_left _ (List.mem_append_right _ (List.mem_append_right _ (List.mem_append_right _ (List.mem_append_right _ (List.mem_append_right _ (List.mem_append_right _ (List.mem_append_right _ (List.mem_append_right _ (List.mem_append_right _ (List.mem_append_right _ (List.mem_append_right _ (List.mem_append_right _ (List.mem_append_right _ (List.mem_append_right _ (List.mem_append_right _ (List.mem_append_right _ (List.mem_append_right _ (List.mem_append_right _ (List.mem_append_right _ (List.mem_append_right _ (List.mem_append_right _ (List.mem_append_right _ (List.mem_append_right _ (List.mem_append_right _ (List.mem_append_right _ (List.mem_append_right _ (List.mem_append_right _ (List.mem_append_right _ (List.mem_append_right _ (List.mem_append_right _ (List.mem_append_right _ (List.mem_append_right _ (List.mem_append_right _ (List.mem_append_right _ (List.mem_append_right _ (List.mem_append_right _ (List.mem_append_right _ (List.mem_append_right _ (List.mem_append_right _ (List.mem_append_right _ (List.mem_append_right _ (List.mem_append_right _ (List.mem_append_right _ (List.mem_append_right _ (List.mem_append_right _ (List.mem_append_right _ (List.mem_append_right _ (List.mem_append_right _ (List.mem_append_right _ (List.mem_append_right _ (List.mem_append_right _ (List.mem_append_right _ (List.mem_append_right _ (List.mem_append_right _ (List.mem_append_right _ (List.mem_append_right _ (List.mem_append_right _ (List.mem_append_right _ (List.mem_append_right _ (List.mem_append_right _ (List.mem_append_right _ (List.mem_append_right _ (List.mem_append_right _ (List.mem_append_right _ (List.mem_append_right _ (List.mem_append_right _ (List.mem_append_right _ (List.mem_append_right _ (List.mem_append_left _ h))))))))))))))))))))))))))))))))))))))))))))))))))))))))))))))))))))))))))))))))))
theorem inr70 : ∀ w ∈ wsL_law_r70, w ∈ wsL_law := fun _ h => List.mem_append_left _ (List.mem_append_left _ (List.mem_append_left _ (List.mem_append_left _ (List.mem_append_left _ (List.mem_append_left _ (List.mem_append_left _ (List.mem_append_left _ (List.mem_append_left _ (List.mem_append_left _ (List.mem_append_left _ (List.mem_append_left _ (List.mem_append_left _ (List.mem_append_left _ (List.mem_append_right _ (List.mem_append_right _ (List.mem_append_right _ (List.mem_append_right _ (List.mem_append_right _ (List.mem_append_right _ (List.mem_append_right _ (List.mem_append_right _ (List.mem_append_right _ (List.mem_append_right _ (List.mem_append_right _ (List.mem_append_right _ (List.mem_append_right _ (List.mem_append_right _ (List.mem_append_right _ (List.mem_append_right _ (List.mem_append_right _ (List.mem_append_right _ (List.mem_append_right _ (List.mem_append_right _ (List.mem_append_right _ (List.mem_append_right _ (List.mem_append_right _ (List.mem_append_right _ (List.mem_append_right _ (List.mem_append_right _ (List.mem_append_right _ (List.mem_append_right _ (List.mem_append_right _ (List.mem_append_right _ (List.mem_append_right _ (List.mem_append_right _ (List.mem_append_right _ (List.mem_append_right _ (List.mem_append_right _ (List.mem_append_right _ (List.mem_append_right _ (List.mem_append_right _ (List.mem_append_right _ (List.mem_append_right _ (List.mem_append_right _ (List.mem_append_right _ (List.mem_append_right _ (List.mem_append_right _ (List.mem_append_right _ (List.mem_append_right _ (List.mem_append_right _ (List.mem_append_right _ (List.mem_append_right _ (List.mem_append_right _ (List.mem_append_right _ (List.mem_append_right _ (List.mem_append_right _ (List.mem_append_right _ (List.mem_append_right _ (List.mem_append_right _ (List.mem_append_right _ (List.mem_append_right _ (List.mem_append_right _ (List.mem_append_right _ (List.mem_append_right _ (List.mem_append_right _ (List.mem_append_right _ (List.mem_append_right _ (List.mem_append_right _ (List.mem_append_right _ (List.mem_append_right _ (List.mem_append_right _ (List.mem_append_right _ (List.mem_append_left _ h)))))))))))))))))))))))))))))))))))))))))))))))))))))))))))))))))))))))))))))))))))
theorem inr71 : ∀ w ∈ wsL_law_r71, w ∈ wsL_law := fun _ h => List.mem_append_left _ (List.mem_append_left _ (List.mem_append_left _ (List.mem_append_left _ (List.mem_append_left _ (List.mem_append_left _ (List.mem_append_left _ (List.mem_append_left _ (List.mem_append_left _ (List.mem_append_left _ (List.mem_append_left _ (List.mem_append_left _ (List.mem_append_left _ (List.mem_append_left _ (List.mem_append_right _ (List.mem_append_right _ (List.mem_append_right _ (List.mem_append_right _ (List.mem_append_right _ (List.mem_append_right _ (List.mem_append_right _ (List.mem_append_right _ (List.mem_append_right _ (List.mem_append_right _ (List.mem_append_right _ (List.mem_append_right _ (List.mem_append_right _ (List.mem_append_right _ (List.mem_append_right _ (List.mem_append_right _ (List.mem_append_right _ (List.mem_append_right _ (List.mem_append_right _ (List.mem_append_right _ (List.mem_append_right _ (List.mem_append_right _ (List.mem_append_right _ (List.mem_append_right _ (List.mem_append_right _ (List.mem_append_right _ (List.mem_append_right _ (List.mem_append_right _ (List.mem_append_right _ (List.mem_append_right _ (List.mem_append_right _ (List.mem_append_right _ (List.mem_append_right _ (List.mem_append_right _ (List.mem_append_right _ (List.mem_append_right _ (List.mem_append_right _ (List.mem_append_right _ (List.mem_append_right _ (List.mem_append_right _ (List.mem_append_right _ (List.mem_append_right _ (List.mem_append_right _ (List.mem_append_right _ (List.mem_append_right _ (List.mem_append_right _ (List.mem_append_right _ (List.mem_append_right _ (List.mem_append_right _ (List.mem_append_right _ (List.mem_append_right _ (List.mem_append_right _ (List.mem_append_right _ (List.mem_append_right _ (List.mem_append_right _ (List.mem_append_right _ (List.mem_append_right _ (List.mem_append_right _ (List.mem_append_right _ (List.mem_append_right _ (List.mem_append_right _ (List.mem_append_right _ (List.mem_append_right _ (List.mem_append_right _ (List.mem_append_right _ (List.mem_append_right _ (List.mem_append_right _ (List.mem_append_right _ (List.mem_append_right _ (List.mem_append_right _ (List.mem_append_left _ h))))))))))))))))))))))))))))))))))))))))))))))))))))))))))))))))))))))))))))))))))))
theorem inr72 : ∀ w ∈ wsL_law_r72, w ∈ wsL_law := fun _ h => List.mem_append_left _ (List.mem_append_left _ (List.mem_append_left _ (List.mem_append_left _ (List.mem_append_left _ (List.mem_append_left _ (List.mem_append_left _ (List.mem_append_left _ (List.mem_append_left _ (List.mem_append_left _ (List.mem_append_left _ (List.mem_append_left _ (List.mem_append_left _ (List.mem_append_left _ (List.mem_append_right _ (List.mem_append_right _ (List.mem_append_right _ (List.mem_append_right _ (List.mem_append_right _ (List.mem_append_right _ (List.mem_append_right _ (List.mem_append_right _ (List.mem_append_right _ (List.mem_append_right _ (List.mem_append_right _ (List.mem_append_right _ (List.mem_append_right _ (List.mem_append_right _ (List.mem_append_right _ (List.mem_append_right _ (List.mem_append_right _ (List.mem_append_right _ (List.mem_append_right _ (List.mem_append_right _ (List.mem_append_right _ (List.mem_append_right _ (List.mem_append_right _ (List.mem_append_right _ (List.mem_append_right _ (List.mem_append_right _ (List.mem_append_right _ (List.mem_append_right _ (List.mem_append_right _ (List.mem_append_right _ (List.mem_append_right _ (List.mem_append_right _ (List.mem_append_right _ (List.mem_append_right _ (List.mem_append_right _ (List.mem_append_right _ (List.mem_append_right _ (List.mem_append_right _ (List.mem_append_right _ (List.mem_append_right _ (List.mem_append_right _ (List.mem_append_right _ (List.mem_append_right _ (List.mem_append_right _ (List.mem_append_right _ (List.mem_append_right _ (List.mem_append_right _ (List.mem_append_right _ (List.mem_append_right _ (List.mem_append_right _ (List.mem_append_right _ (List.mem_append_right _ (List.mem_append_right _ (List.mem_append_right _ (List.mem_append_right _ (List.mem_append_right _ (List.mem_append_right _ (List.mem_append_right _ (List.mem_append_right _ (List.mem_append_right _ (List.mem_append_right _ (List.mem_append_right _ (List.mem_append_right _ (List.mem_append_right _ (List.mem_append_right _ (List.mem_append_right _ (List.mem_append_right _ (List.mem_append_right _ (List.mem_append_right _ (List.mem_append_right _ (List.mem_append_right _ (List.mem_append_left _ h)))))))))))))))))))))))))))))))))))))))))))))))))))))))))))))))))))))))))))))))))))))
theorem inr73 : ∀ w ∈ wsL_law_r73, w ∈ wsL_law := fun _ h => List.mem_append_left _ (List.mem_append_left _ (List.mem_append_left _ (List.mem_append_left _ (List.mem_append_left _ (List.mem_append_left _ (List.mem_append_left _ (List.mem_append_left _ (List.mem_append_left _ (List.mem_append_left _ (List.mem_append_left _ (List.mem_append_left _ (List.mem_append_left _ (List.mem_append_left _ (List.mem_append_right _ (List.mem_append_right _ (List.mem_append_right _ (List.mem_append_right _ (List.mem_append_right _ (List.mem_append_right _ (List.mem_append_right _ (List.mem_append_right _ (List.mem_append_right _ (List.mem_append_right _ (List.mem_append_right _ (List.mem_append_right _ (List.mem_append_right _ (List.mem_append_right _ (List.mem_append_right _ (List.mem_append_right _ (List.mem_append_right _ (List.mem_append_right _ (List.mem_append_right _ (List.mem_append_right _ (List.mem_append_right _ (List.mem_append_right _ (List.mem_append_right _ (List.mem_append_right _ (List.mem_append_right _ (List.mem_append_right _ (List.mem_append_right _ (List.mem_append_right _ (List.mem_append_right _ (List.mem_append_right _ (List.mem_append_right _ (List.mem_append_right _ (List.mem_append_right _ (List.mem_append_right _ (List.mem_append_right _ (List.mem_append_right _ (List.mem_append_right _ (List.mem_append_right _ (List.mem_append_right _ (List.mem_append_right _ (List.mem_append_right _ (List.mem_append_right _ (List.mem_append_right _ (List.mem_append_right _ (List.mem_append_right _ (List.mem_append_right _ (List.mem_append_right _ (List.mem_append_right _ (List.mem_append_right _ (List.mem_append_right _ (List.mem_append_right _ (List.mem_append_right _ (List.mem_append_right _ (List.mem_append_right _ (List.mem_append_right _ (List.mem_append_right _ (List.mem_append_right _ (List.mem_append_right _ (List.mem_append_right _ (List.mem_append_right _ (List.mem_append_right _ (List.mem_append_right _ (List.mem_append_right _ (List.mem_append_right _ (List.mem_append_right _ (List.mem_append_right _ (List.mem_append_right _ (List.mem_append_right _ (List.mem_append_right _ (List.mem_append_right _ (List.mem_append_right _ (List.mem_append_right _ (List.mem_append_left _ h))))))))))))))))))))))))))))))))))))))))))))))))))))))))))))))))))))))))))))))))))))))
theorem inr74 : ∀ w ∈ wsL_law_r74, w ∈ wsL_law := fun _ h => List.mem_append_left _ (List.mem_append_left _ (List.mem_append_left _ (List.mem_append_left _ (List.mem_append_left _ (List.mem_append_left _ (List.mem_append_left _ (List.mem_append_left _ (List.mem_append_left _ (List.mem_append_left _ (List.mem_append_left _ (List.mem_append_left _ (List.mem_append_left _ (List.mem_append_left _ (List.mem_append_right _ (List.mem_append_right _ (List.mem_append_right _ (List.mem_append_right _ (List.mem_append_right _ (List.mem_append_right _ (List.mem_append_right _ (List.mem_append_right _ (List.mem_append_right _ (List.mem_append_right _ (List.mem_append_right _ (List.mem_append_right _ (List.mem_append_right _ (List.mem_append_right _ (List.mem_append_right _ (List.mem_append_right _ (List.mem_append_right _ (List.mem_append_right _ (List.mem_append_right _ (List.mem_append_right _ (List.mem_append_right _ (List.mem_append_right _ (List.mem_append_right _ (List.mem_append_right _ (List.mem_append_right _ (List.mem_append_right _ (List.mem_append_right _ (List.mem_append_right _ (List.mem_append_right _ (List.mem_append_right _ (List.mem_append_right _ (List.mem_append_right _ (List.mem_append_right _ (List.mem_append_right _ (List.mem_append_right _ (List.mem_append_right _ (List.mem_append_right _ (List.mem_append_right _ (List.mem_append_right _ (List.mem_append_right _ (List.mem_append_right _ (List.mem_append_right _ (List.mem_append_right _ (List.mem_append_right _ (List.mem_append_right _ (List.mem_append_right _ (List.mem_append_right _ (List.mem_append_right _ (List.mem_append_right _ (List.mem_append_right _ (List.mem_append_right _ (List.mem_append_right _ (List.mem_append_right _ (List.mem_append_right _ (List.mem_append_right _ (List.mem_append_right _ (List.mem_append_right _ (List.mem_append_right _ (List.mem_append_right _ (List.mem_append_right _ (List.mem_append_right _ (List.mem_append_right _ (List.mem_append_right _ (List.mem_append_right _ (List.mem_append_right _ (List.mem_append_right _ (List.mem_append_right _ (List.mem_append_right _ (List.mem_append_right _ (List.mem_append_right _ (List.mem_append_right _ (List.mem_append_right _ (List.mem_append_right _ (List.mem_append_left _ h)))))))))))))))))))))))))))))))))))))))))))))))))))))))))))))))))))))))))))))))))))))))
theorem inr75 : ∀ w ∈ wsL_law_r75, w ∈ wsL_law := fun _ h => List.mem_append_left _ (List.mem_append_left _ (List.mem_append_left _ (List.mem_append_left _ (List.mem_append_left _ (List.mem_append_left _ (List.mem_append_left _ (List.mem_append_left _ (List.mem_append_left _ (List.mem_append_left _ (List.mem_append_left _ (List.mem_append_left _ (List.mem_append_left _ (List.mem_append_left _ (List.mem_append_right _ (List.mem_append_right _ (List.mem_append_right _ (List.mem_append_right _ (List.mem_append_right _ (List.mem_append_right _ (List.mem_append_right _ (List.mem_append_right _ (List.mem_append_right _ (List.mem_append_right _ (List.mem_append_right _ (List.mem_append_right _ (List.mem_append_right _ (List.mem_append_right _ (List.mem_append_right _ (List.mem_append_right _ (List.mem_append_right _ (List.mem_append_right _ (List.mem_append_right _ (List.mem_append_right _ (List.mem_append_right _ (List.mem_append_right _ (List.mem_append_right _ (List.mem_append_right _ (List.mem_append_right _ (List.mem_append_right _ (List.mem_append_right _ (List.mem_append_right _ (List.mem_append_right _ (List.mem_append_right _ (List.mem_append_right _ (List.mem_append_right _ (List.mem_append_right _ (List.mem_append_right _ (List.mem_append_right _ (List.mem_append_right _ (List.mem_append_right _ (List.mem_append_right _ (List.mem_append_right _ (List.mem_append_right _ (List.mem_append_right _ (List.mem_append_right _ (List.mem_append_right _ (List.mem_append_right _ (List.mem_append_right _ (List.mem_append_right _ (List.mem_append_right _ (List.mem_append_right _ (List.mem_append_right _ (List.mem_append_right _ (List.mem_append_right _ (List.mem_append_right _ (List.mem_append_right _ (List.mem_append_right _ (List.mem_append_right _ (List.mem_append_right _ (List.mem_append_right _ (List.mem_append_right _ (List.mem_append_right _ (List.mem_append_right _ (List.mem_append_right _ (List.mem_append_right _ (List.mem_append_right _ (List.mem_append_right _ (List.mem_append_right _ (List.mem_append_right _ (List.mem_append_right _ (List.mem_append_right _ (List.mem_append_right _ (List.mem_append_right _ (List.mem_append_right _ (List.mem_append_right _ (List.mem_append_right _ (List.mem_append_right _ (h))))))))))))))))))))))))))))))))))))))))))))))))))))))))))))))))))))))))))))))))))))))))
