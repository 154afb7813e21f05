theorem goodIn_r {big : List Cond} (ws : List Cond) (ps : List Nat) (hp : ws = ps.filterMap (fun i => big[i]?)) (h : ws.all goodWord = true) : GoodIn big ws := by
  intro w hw
  have h1 := List.all_eq_true.mp h w hw
  rw [hp] at hw
  obtain ⟨i, -, hi⟩ := List.mem_filterMap.mp hw
  have hm : w ∈ big := by first | exact List.mem_of_getElem? hi | exact List.getElem?_mem hi
  exact ⟨hm, good_of_word h1⟩
theorem goodIn_app {big a b : List Cond} (ha : GoodIn big a) (hb : GoodIn big b) : GoodIn big (a ++ b) := fun w h => (List.mem_append.mp h).elim (ha w) (hb w)
theorem goodIn_ca {big a b : List Cond} {c : Cond} (ha : GoodIn big (c :: a)) (hb : GoodIn big b) : GoodIn big (c :: (a ++ b)) := fun w h => (List.mem_cons.mp h).elim (fun e => ha w (List.mem_cons.mpr (Or.inl e))) (fun h => (List.mem_append.mp h).elim (fun h => ha w (List.mem_cons.mpr (Or.inr h))) (hb w))
theorem goodIn_sub {big ws : List Cond} (hm : ∀ w ∈ ws, w ∈ big) (h : ws.all goodWord = true) : GoodIn big ws := fun w hw => ⟨hm w hw, good_of_word (List.all_eq_true.mp h w hw)⟩

def RX0 : String := "SubtitleSeats$Film"
def TX0 : u_T := fun k => match k with
  | 0 => ("SubtitleSeats$Film", "rows", "[LSubtitleSeats$Subtitle;", true)
  | 1 => ("SubtitleSeats$Film", "count", "I", false)
  | 2 => ("SubtitleSeats$Film", "cutFrames", "[I", true)
  | 3 => ("SubtitleSeats$Film", "cutCount", "I", false)
  | _ => ("SubtitleSeats$Film", "values", "[I", true)
def tyX0 : Nat → FieldType := fun k => match k with
  | 0 => .array (.object "SubtitleSeats$Subtitle")
  | 1 => .int
  | 2 => .array .int
  | 3 => .int
  | _ => .array .int
abbrev wsX00 : List Cond := u_ws RX0 TX0 5
theorem nmX0 : ∀ a, a < 5 → ∀ b, b < 5 → a ≠ b → (TX0 a).2.1 ≠ (TX0 b).2.1 := by decide +kernel
theorem tyX0_ok : ∀ k, k < 5 → parseFieldDescriptor (TX0 k).2.2.1 = some (tyX0 k) := by decide +kernel
abbrev cX0_init : ByteArray := prog_2_method_1_code
def yX0_init : MethodName := ⟨RX0, "<init>", "()V"⟩
abbrev cX0_copyFrom : ByteArray := prog_2_method_2_code
def yX0_copyFrom : MethodName := ⟨RX0, "copyFrom", "(LSubtitleSeats$Film;)V"⟩
abbrev cX0_copyTimesFrom : ByteArray := prog_2_method_3_code
def yX0_copyTimesFrom : MethodName := ⟨RX0, "copyTimesFrom", "(LSubtitleSeats$Film;)V"⟩
abbrev cX0_has : ByteArray := prog_2_method_4_code
def yX0_has : MethodName := ⟨RX0, "has", "(I)Z"⟩
abbrev cX0_endBefore : ByteArray := prog_2_method_5_code
def yX0_endBefore : MethodName := ⟨RX0, "endBefore", "(I)I"⟩
abbrev cX0_startBehind : ByteArray := prog_2_method_6_code
def yX0_startBehind : MethodName := ⟨RX0, "startBehind", "(I)I"⟩
abbrev cX0_reasonAgainst : ByteArray := prog_2_method_7_code
def yX0_reasonAgainst : MethodName := ⟨RX0, "reasonAgainst", "(II)I"⟩
abbrev cX0_openRowAt : ByteArray := prog_2_method_8_code
def yX0_openRowAt : MethodName := ⟨RX0, "openRowAt", "(I)I"⟩
abbrev cX0_openRow : ByteArray := prog_2_method_9_code
def yX0_openRow : MethodName := ⟨RX0, "openRow", "(I)V"⟩
abbrev cX0_closeRow : ByteArray := prog_2_method_10_code
def yX0_closeRow : MethodName := ⟨RX0, "closeRow", "(I)V"⟩
abbrev cX0_splitRow : ByteArray := prog_2_method_11_code
def yX0_splitRow : MethodName := ⟨RX0, "splitRow", "(II)V"⟩
abbrev cX0_joinRows : ByteArray := prog_2_method_12_code
def yX0_joinRows : MethodName := ⟨RX0, "joinRows", "(I)V"⟩
abbrev cX0_framesNeededBy : ByteArray := prog_2_method_13_code
def yX0_framesNeededBy : MethodName := ⟨RX0, "framesNeededBy", "(LSubtitleSeats$Subtitle;)I"⟩
abbrev cX0_seatAll : ByteArray := prog_2_method_14_code
def yX0_seatAll : MethodName := ⟨RX0, "seatAll", "(I)I"⟩
abbrev cX0_seatRow : ByteArray := prog_2_method_15_code
def yX0_seatRow : MethodName := ⟨RX0, "seatRow", "(LSubtitleSeats$Subtitle;II)Z"⟩
abbrev cX0_nearestCutTo : ByteArray := prog_2_method_16_code
def yX0_nearestCutTo : MethodName := ⟨RX0, "nearestCutTo", "(I)I"⟩
abbrev cX0_faultsOf : ByteArray := prog_2_method_17_code
def yX0_faultsOf : MethodName := ⟨RX0, "faultsOf", "(I)I"⟩
abbrev cX0_hasCutNearItsTimes : ByteArray := prog_2_method_18_code
def yX0_hasCutNearItsTimes : MethodName := ⟨RX0, "hasCutNearItsTimes", "(LSubtitleSeats$Subtitle;)Z"⟩
abbrev cX0_countFaulty : ByteArray := prog_2_method_19_code
def yX0_countFaulty : MethodName := ⟨RX0, "countFaulty", "(I)I"⟩
abbrev cX0_countTooFastFor : ByteArray := prog_2_method_20_code
def yX0_countTooFastFor : MethodName := ⟨RX0, "countTooFastFor", "(I)I"⟩
abbrev cX0_framesOfAll : ByteArray := prog_2_method_21_code
def yX0_framesOfAll : MethodName := ⟨RX0, "framesOfAll", "()I"⟩
abbrev cX0_lengthOfAll : ByteArray := prog_2_method_22_code
def yX0_lengthOfAll : MethodName := ⟨RX0, "lengthOfAll", "()I"⟩
abbrev cX0_findCut : ByteArray := prog_2_method_23_code
def yX0_findCut : MethodName := ⟨RX0, "findCut", "(I)I"⟩
abbrev cX0_addCut : ByteArray := prog_2_method_24_code
def yX0_addCut : MethodName := ⟨RX0, "addCut", "(I)V"⟩
abbrev cX0_removeCut : ByteArray := prog_2_method_25_code
def yX0_removeCut : MethodName := ⟨RX0, "removeCut", "(I)V"⟩
abbrev cX0_quotient : ByteArray := prog_2_method_26_code
def yX0_quotient : MethodName := ⟨RX0, "quotient", "(II)I"⟩
def RX1 : String := "SubtitleSeats$History"
def TX1 : u_T := fun k => match k with
  | 0 => ("SubtitleSeats$History", "states", "[LSubtitleSeats$Film;", true)
  | 1 => ("SubtitleSeats$History", "count", "I", false)
  | _ => ("SubtitleSeats$History", "latest", "I", false)
def tyX1 : Nat → FieldType := fun k => match k with
  | 0 => .array (.object "SubtitleSeats$Film")
  | 1 => .int
  | _ => .int
abbrev wsX10 : List Cond := u_ws RX1 TX1 3
theorem nmX1 : ∀ a, a < 3 → ∀ b, b < 3 → a ≠ b → (TX1 a).2.1 ≠ (TX1 b).2.1 := by decide +kernel
theorem tyX1_ok : ∀ k, k < 3 → parseFieldDescriptor (TX1 k).2.2.1 = some (tyX1 k) := by decide +kernel
abbrev cX1_init : ByteArray := prog_3_method_1_code
def yX1_init : MethodName := ⟨RX1, "<init>", "()V"⟩
abbrev cX1_record : ByteArray := prog_3_method_2_code
def yX1_record : MethodName := ⟨RX1, "record", "(LSubtitleSeats$Film;)V"⟩
abbrev cX1_restore : ByteArray := prog_3_method_3_code
def yX1_restore : MethodName := ⟨RX1, "restore", "(LSubtitleSeats$Film;)V"⟩
def RX2 : String := "SubtitleSeats$Script"
def TX2 : u_T := fun k => match k with
  | 0 => ("SubtitleSeats$Script", "characters", "[C", true)
  | 1 => ("SubtitleSeats$Script", "length", "I", false)
  | 2 => ("SubtitleSeats$Script", "place", "I", false)
  | 3 => ("SubtitleSeats$Script", "entryPlace", "I", false)
  | 4 => ("SubtitleSeats$Script", "start", "I", false)
  | 5 => ("SubtitleSeats$Script", "end", "I", false)
  | 6 => ("SubtitleSeats$Script", "textPlace", "I", false)
  | _ => ("SubtitleSeats$Script", "textLength", "I", false)
def tyX2 : Nat → FieldType := fun k => match k with
  | 0 => .array .char
  | 1 => .int
  | 2 => .int
  | 3 => .int
  | 4 => .int
  | 5 => .int
  | 6 => .int
  | _ => .int
abbrev wsX20 : List Cond := u_ws RX2 TX2 8
theorem nmX2 : ∀ a, a < 8 → ∀ b, b < 8 → a ≠ b → (TX2 a).2.1 ≠ (TX2 b).2.1 := by decide +kernel
theorem tyX2_ok : ∀ k, k < 8 → parseFieldDescriptor (TX2 k).2.2.1 = some (tyX2 k) := by decide +kernel
abbrev cX2_init : ByteArray := prog_4_method_1_code
def yX2_init : MethodName := ⟨RX2, "<init>", "()V"⟩
abbrev cX2_findFault : ByteArray := prog_4_method_2_code
def yX2_findFault : MethodName := ⟨RX2, "findFault", "()I"⟩
abbrev cX2_rewind : ByteArray := prog_4_method_3_code
def yX2_rewind : MethodName := ⟨RX2, "rewind", "()V"⟩
abbrev cX2_readEntry : ByteArray := prog_4_method_4_code
def yX2_readEntry : MethodName := ⟨RX2, "readEntry", "()Z"⟩
abbrev cX2_take : ByteArray := prog_4_method_5_code
def yX2_take : MethodName := ⟨RX2, "take", "(C)Z"⟩
abbrev cX2_readNumber : ByteArray := prog_4_method_6_code
def yX2_readNumber : MethodName := ⟨RX2, "readNumber", "()I"⟩
abbrev cX2_readText : ByteArray := prog_4_method_7_code
def yX2_readText : MethodName := ⟨RX2, "readText", "()Z"⟩
abbrev cX2_mayFollowInText : ByteArray := prog_4_method_8_code
def yX2_mayFollowInText : MethodName := ⟨RX2, "mayFollowInText", "(C)Z"⟩
abbrev cX2_isDigit : ByteArray := prog_4_method_9_code
def yX2_isDigit : MethodName := ⟨RX2, "isDigit", "(C)Z"⟩
abbrev cX2_isSign : ByteArray := prog_4_method_10_code
def yX2_isSign : MethodName := ⟨RX2, "isSign", "(C)Z"⟩
def RX3 : String := "SubtitleSeats$Subtitle"
def TX3 : u_T := fun k => match k with
  | 0 => ("SubtitleSeats$Subtitle", "start", "I", false)
  | 1 => ("SubtitleSeats$Subtitle", "end", "I", false)
  | 2 => ("SubtitleSeats$Subtitle", "length", "I", false)
  | _ => ("SubtitleSeats$Subtitle", "text", "[C", true)
def tyX3 : Nat → FieldType := fun k => match k with
  | 0 => .int
  | 1 => .int
  | 2 => .int
  | _ => .array .char
abbrev wsX30 : List Cond := u_ws RX3 TX3 4
theorem nmX3 : ∀ a, a < 4 → ∀ b, b < 4 → a ≠ b → (TX3 a).2.1 ≠ (TX3 b).2.1 := by decide +kernel
theorem tyX3_ok : ∀ k, k < 4 → parseFieldDescriptor (TX3 k).2.2.1 = some (tyX3 k) := by decide +kernel
abbrev cX3_init : ByteArray := prog_5_method_1_code
def yX3_init : MethodName := ⟨RX3, "<init>", "()V"⟩
abbrev cX3_copyFrom : ByteArray := prog_5_method_2_code
def yX3_copyFrom : MethodName := ⟨RX3, "copyFrom", "(LSubtitleSeats$Subtitle;)V"⟩
abbrev cX3_takeText : ByteArray := prog_5_method_3_code
def yX3_takeText : MethodName := ⟨RX3, "takeText", "([CII)V"⟩
abbrev cX3_frames : ByteArray := prog_5_method_4_code
def yX3_frames : MethodName := ⟨RX3, "frames", "()I"⟩
abbrev cX3_isTooFastFor : ByteArray := prog_5_method_5_code
def yX3_isTooFastFor : MethodName := ⟨RX3, "isTooFastFor", "(I)Z"⟩
abbrev cX3_bestBlank : ByteArray := prog_5_method_6_code
def yX3_bestBlank : MethodName := ⟨RX3, "bestBlank", "()I"⟩
abbrev cX3_kindOfBlankBehind : ByteArray := prog_5_method_7_code
def yX3_kindOfBlankBehind : MethodName := ⟨RX3, "kindOfBlankBehind", "(C)I"⟩
abbrev cX3_lineEnd : ByteArray := prog_5_method_8_code
def yX3_lineEnd : MethodName := ⟨RX3, "lineEnd", "(II)I"⟩
abbrev cX3_lineCount : ByteArray := prog_5_method_9_code
def yX3_lineCount : MethodName := ⟨RX3, "lineCount", "(I)I"⟩
abbrev cX3_lineLength : ByteArray := prog_5_method_10_code
def yX3_lineLength : MethodName := ⟨RX3, "lineLength", "(II)I"⟩
abbrev cX3_fitsInLines : ByteArray := prog_5_method_11_code
def yX3_fitsInLines : MethodName := ⟨RX3, "fitsInLines", "(I)Z"⟩
def RX4 : String := "SubtitleSeats"
def TX4 : u_T := fun k => match k with
  | 0 => ("SubtitleSeats", "film", "LSubtitleSeats$Film;", true)
  | 1 => ("SubtitleSeats", "trial", "LSubtitleSeats$Film;", true)
  | 2 => ("SubtitleSeats", "history", "LSubtitleSeats$History;", true)
  | 3 => ("SubtitleSeats", "script", "LSubtitleSeats$Script;", true)
  | _ => ("SubtitleSeats", "report", "[I", true)
def tyX4 : Nat → FieldType := fun k => match k with
  | 0 => .object "SubtitleSeats$Film"
  | 1 => .object "SubtitleSeats$Film"
  | 2 => .object "SubtitleSeats$History"
  | 3 => .object "SubtitleSeats$Script"
  | _ => .array .int
abbrev wsX40 : List Cond := u_ws RX4 TX4 5
theorem nmX4 : ∀ a, a < 5 → ∀ b, b < 5 → a ≠ b → (TX4 a).2.1 ≠ (TX4 b).2.1 := by decide +kernel
theorem tyX4_ok : ∀ k, k < 5 → parseFieldDescriptor (TX4 k).2.2.1 = some (tyX4 k) := by decide +kernel
abbrev cX4_init : ByteArray := prog_1_method_1_code
def yX4_init : MethodName := ⟨RX4, "<init>", "()V"⟩
abbrev cX4_append : ByteArray := prog_1_method_2_code
def yX4_append : MethodName := ⟨RX4, "append", "(I)I"⟩
abbrev cX4_clearScript : ByteArray := prog_1_method_3_code
def yX4_clearScript : MethodName := ⟨RX4, "clearScript", "()I"⟩
abbrev cX4_fault : ByteArray := prog_1_method_4_code
def yX4_fault : MethodName := ⟨RX4, "fault", "()I"⟩
abbrev cX4_load : ByteArray := prog_1_method_5_code
def yX4_load : MethodName := ⟨RX4, "load", "()I"⟩
abbrev cX4_why : ByteArray := prog_1_method_6_code
def yX4_why : MethodName := ⟨RX4, "why", "(I)I"⟩
abbrev cX4_undo : ByteArray := prog_1_method_7_code
def yX4_undo : MethodName := ⟨RX4, "undo", "()I"⟩
abbrev cX4_remove : ByteArray := prog_1_method_8_code
def yX4_remove : MethodName := ⟨RX4, "remove", "(I)I"⟩
abbrev cX4_shift : ByteArray := prog_1_method_9_code
def yX4_shift : MethodName := ⟨RX4, "shift", "(II)I"⟩
abbrev cX4_setEnd : ByteArray := prog_1_method_10_code
def yX4_setEnd : MethodName := ⟨RX4, "setEnd", "(II)I"⟩
abbrev cX4_split : ByteArray := prog_1_method_11_code
def yX4_split : MethodName := ⟨RX4, "split", "(I)I"⟩
abbrev cX4_join : ByteArray := prog_1_method_12_code
def yX4_join : MethodName := ⟨RX4, "join", "(I)I"⟩
abbrev cX4_seat : ByteArray := prog_1_method_13_code
def yX4_seat : MethodName := ⟨RX4, "seat", "()I"⟩
abbrev cX4_cut : ByteArray := prog_1_method_14_code
def yX4_cut : MethodName := ⟨RX4, "cut", "(I)I"⟩
abbrev cX4_uncut : ByteArray := prog_1_method_15_code
def yX4_uncut : MethodName := ⟨RX4, "uncut", "(I)I"⟩
abbrev cX4_set : ByteArray := prog_1_method_16_code
def yX4_set : MethodName := ⟨RX4, "set", "(II)I"⟩
abbrev cX4_subtitles : ByteArray := prog_1_method_17_code
def yX4_subtitles : MethodName := ⟨RX4, "subtitles", "()I"⟩
abbrev cX4_subtitle : ByteArray := prog_1_method_18_code
def yX4_subtitle : MethodName := ⟨RX4, "subtitle", "(II)I"⟩
abbrev cX4_character : ByteArray := prog_1_method_19_code
def yX4_character : MethodName := ⟨RX4, "character", "(II)I"⟩
abbrev cX4_line : ByteArray := prog_1_method_20_code
def yX4_line : MethodName := ⟨RX4, "line", "(II)I"⟩
abbrev cX4_at : ByteArray := prog_1_method_21_code
def yX4_at : MethodName := ⟨RX4, "at", "(I)I"⟩
abbrev cX4_cuts : ByteArray := prog_1_method_22_code
def yX4_cuts : MethodName := ⟨RX4, "cuts", "()I"⟩
abbrev cX4_cutAt : ByteArray := prog_1_method_23_code
def yX4_cutAt : MethodName := ⟨RX4, "cutAt", "(I)I"⟩
abbrev cX4_setting : ByteArray := prog_1_method_24_code
def yX4_setting : MethodName := ⟨RX4, "setting", "(I)I"⟩
abbrev cX4_faulty : ByteArray := prog_1_method_25_code
def yX4_faulty : MethodName := ⟨RX4, "faulty", "(I)I"⟩
abbrev cX4_shown : ByteArray := prog_1_method_26_code
def yX4_shown : MethodName := ⟨RX4, "shown", "()I"⟩
abbrev cX4_meanSpeed : ByteArray := prog_1_method_27_code
def yX4_meanSpeed : MethodName := ⟨RX4, "meanSpeed", "()F"⟩
abbrev cX4_unread : ByteArray := prog_1_method_28_code
def yX4_unread : MethodName := ⟨RX4, "unread", "(I)I"⟩
abbrev cX4_leastPace : ByteArray := prog_1_method_29_code
def yX4_leastPace : MethodName := ⟨RX4, "leastPace", "()I"⟩
abbrev cX4_ifSeated : ByteArray := prog_1_method_30_code
def yX4_ifSeated : MethodName := ⟨RX4, "ifSeated", "(I)I"⟩
abbrev cX4_bestGap : ByteArray := prog_1_method_31_code
def yX4_bestGap : MethodName := ⟨RX4, "bestGap", "()I"⟩
abbrev cX4_writeReport : ByteArray := prog_1_method_32_code
def yX4_writeReport : MethodName := ⟨RX4, "writeReport", "(III)V"⟩
def RX5 : String := "SubtitleSeatsModel"
def TX5 : u_T := fun k => match k with
  | _ => ("", "", "", false)
def tyX5 : Nat → FieldType := fun k => match k with
  | _ => .int
abbrev wsX50 : List Cond := u_ws RX5 TX5 0
theorem nmX5 : ∀ a, a < 0 → ∀ b, b < 0 → a ≠ b → (TX5 a).2.1 ≠ (TX5 b).2.1 := by decide +kernel
theorem tyX5_ok : ∀ k, k < 0 → parseFieldDescriptor (TX5 k).2.2.1 = some (tyX5 k) := by decide +kernel
def RJ6 : String := "java/lang/Integer"
def TJ6 : u_T := fun k => match k with
  | _ => ("", "", "", false)
def tyJ6 : Nat → FieldType := fun k => match k with
  | _ => .int
abbrev wsJ60 : List Cond := u_ws RJ6 TJ6 0
theorem nmJ6 : ∀ a, a < 0 → ∀ b, b < 0 → a ≠ b → (TJ6 a).2.1 ≠ (TJ6 b).2.1 := by decide +kernel
theorem tyJ6_ok : ∀ k, k < 0 → parseFieldDescriptor (TJ6 k).2.2.1 = some (tyJ6 k) := by decide +kernel
abbrev cJ6_bitCount_0f7a4 : ByteArray := prog_8_method_49_code
def yJ6_bitCount_0f7a4 : MethodName := ⟨RJ6, "bitCount", "(I)I"⟩
def RJ9 : String := "java/lang/Math"
def TJ9 : u_T := fun k => match k with
  | _ => ("", "", "", false)
def tyJ9 : Nat → FieldType := fun k => match k with
  | _ => .int
abbrev wsJ90 : List Cond := u_ws RJ9 TJ9 0
theorem nmJ9 : ∀ a, a < 0 → ∀ b, b < 0 → a ≠ b → (TJ9 a).2.1 ≠ (TJ9 b).2.1 := by decide +kernel
theorem tyJ9_ok : ∀ k, k < 0 → parseFieldDescriptor (TJ9 k).2.2.1 = some (tyJ9 k) := by decide +kernel
abbrev cJ9_abs_0f7a4 : ByteArray := prog_9_method_59_code
def yJ9_abs_0f7a4 : MethodName := ⟨RJ9, "abs", "(I)I"⟩
abbrev cJ9_max_7cf53 : ByteArray := prog_9_method_65_code
def yJ9_max_7cf53 : MethodName := ⟨RJ9, "max", "(II)I"⟩
abbrev cJ9_min_7cf53 : ByteArray := prog_9_method_69_code
def yJ9_min_7cf53 : MethodName := ⟨RJ9, "min", "(II)I"⟩
def RJ10 : String := "java/lang/System"
def TJ10 : u_T := fun k => match k with
  | _ => ("", "", "", false)
def tyJ10 : Nat → FieldType := fun k => match k with
  | _ => .int
abbrev wsJ100 : List Cond := u_ws RJ10 TJ10 0
theorem nmJ10 : ∀ a, a < 0 → ∀ b, b < 0 → a ≠ b → (TJ10 a).2.1 ≠ (TJ10 b).2.1 := by decide +kernel
theorem tyJ10_ok : ∀ k, k < 0 → parseFieldDescriptor (TJ10 k).2.2.1 = some (tyJ10 k) := by decide +kernel
def RL : String := "SubtitleSeatsLaw"
abbrev cL_lot : ByteArray := method_2_code
def yL_lot : MethodName := ⟨RL, "lot", "([II)I"⟩
abbrev cL_low : ByteArray := method_3_code
def yL_low : MethodName := ⟨RL, "low", "(II)I"⟩
abbrev cL_look : ByteArray := method_4_code
def yL_look : MethodName := ⟨RL, "look", "(LSubtitleSeats;)J"⟩
abbrev cL_faults : ByteArray := method_5_code
def yL_faults : MethodName := ⟨RL, "faults", "(LSubtitleSeats;I)I"⟩
abbrev cL_holds : ByteArray := method_6_code
def yL_holds : MethodName := ⟨RL, "holds", "(LSubtitleSeats;)Z"⟩
abbrev cL_would : ByteArray := method_7_code
def yL_would : MethodName := ⟨RL, "would", "(LSubtitleSeats;I)Z"⟩
abbrev cL_digits : ByteArray := method_8_code
def yL_digits : MethodName := ⟨RL, "digits", "(LSubtitleSeats;I)Z"⟩
abbrev cL_types : ByteArray := method_9_code
def yL_types : MethodName := ⟨RL, "types", "(LSubtitleSeats;I)Z"⟩
abbrev cL_loads : ByteArray := method_10_code
def yL_loads : MethodName := ⟨RL, "loads", "(LSubtitleSeats;I)Z"⟩
abbrev cL_moves : ByteArray := method_11_code
def yL_moves : MethodName := ⟨RL, "moves", "(LSubtitleSeats;II)Z"⟩
abbrev cL_own : ByteArray := method_12_code
def yL_own : MethodName := ⟨RL, "own", "(III)I"⟩
abbrev cL_acts : ByteArray := method_13_code
def yL_acts : MethodName := ⟨RL, "acts", "(LSubtitleSeats;II)Z"⟩
abbrev cL_law : ByteArray := code
def yL_law : MethodName := ⟨RL, "law", "([I)Z"⟩
abbrev vwCl : List vw_C := [(RX0, TX0, 5), (RX1, TX1, 3), (RX2, TX2, 8), (RX3, TX3, 4), (RX4, TX4, 5)]
def zWL : List Cond := lw_tbl.filter goodWord
theorem zWL_good : GoodIn zWL zWL := fun w h => ⟨h, good_of_word (List.mem_filter.mp h).2⟩
theorem zWL_in : ∀ w ∈ zWL, w ∈ lw_tbl := fun _ h => (List.mem_filter.mp h).1
