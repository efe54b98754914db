theorem tb_d {c : ByteArray} {t : List (Nat × Instr × Nat)} (h : (t.all fun q => decide (decode c q.1 = .ok q.2)) = true) (k : Nat) (q : Nat × Instr × Nat) (hk : t[k]? = some q) : decode c q.1 = .ok q.2 :=
  of_decide_eq_true (List.all_eq_true.mp h q (by first | exact List.mem_of_getElem? hk | exact List.getElem?_mem hk))
/-! ===== BEGIN words of one list among another's, by their places ===== -/
theorem goodIn_r {big : List Cond} (ws : List Cond) (ps : List Nat) (hp : ws = ps.filterMap (fun i => big[i]?)) (h : ws.all goodWord = true) : GoodIn big ws := by
  intro w hw
  have h1 := List.all_eq_true.mp h w hw
  rw [hp] at hw
  obtain ⟨i, -, hi⟩ := List.mem_filterMap.mp hw
  have hm : w ∈ big := by first | exact List.mem_of_getElem? hi | exact List.getElem?_mem hi
  exact ⟨hm, good_of_word h1⟩
theorem goodIn_app {big a b : List Cond} (ha : GoodIn big a) (hb : GoodIn big b) : GoodIn big (a ++ b) := fun w h => (List.mem_append.mp h).elim (ha w) (hb w)
theorem goodIn_ca {big a b : List Cond} {c : Cond} (ha : GoodIn big (c :: a)) (hb : GoodIn big b) : GoodIn big (c :: (a ++ b)) := fun w h => (List.mem_cons.mp h).elim (fun e => ha w (List.mem_cons.mpr (Or.inl e))) (fun h => (List.mem_append.mp h).elim (fun h => ha w (List.mem_cons.mpr (Or.inr h))) (hb w))
theorem goodIn_sub {big ws : List Cond} (hm : ∀ w ∈ ws, w ∈ big) (h : ws.all goodWord = true) : GoodIn big ws := fun w hw => ⟨hm w hw, good_of_word (List.all_eq_true.mp h w hw)⟩
/-! ===== END ===== -/

/-! ===== BEGIN printed: names, fields, word lists, decode rows ===== -/
def RX0 : String := "WrongWord$Acts"
def TX0 : u_T := fun k => match k with
  | 0 => ("WrongWord$Acts", "ahead", "[LWrongWord$Moment;", true)
  | 1 => ("WrongWord$Acts", "at", "I", false)
  | _ => ("WrongWord$Acts", "kept", "I", false)
def tyX0 : Nat → FieldType := fun k => match k with
  | 0 => .array (.object "WrongWord$Moment")
  | 1 => .int
  | _ => .int
abbrev wsX00 : List Cond := u_ws RX0 TX0 3
theorem nmX0 : ∀ a, a < 3 → ∀ b, b < 3 → a ≠ b → (TX0 a).2.1 ≠ (TX0 b).2.1 := by decide +kernel
theorem tyX0_ok : ∀ k, k < 3 → parseFieldDescriptor (TX0 k).2.2.1 = some (tyX0 k) := by decide +kernel
abbrev cX0_init : ByteArray := prog_2_method_1_code
def yX0_init : MethodName := ⟨RX0, "<init>", "()V"⟩
abbrev cX0_forget : ByteArray := prog_2_method_2_code
def yX0_forget : MethodName := ⟨RX0, "forget", "()V"⟩
abbrev cX0_keep : ByteArray := prog_2_method_3_code
def yX0_keep : MethodName := ⟨RX0, "keep", "(LWrongWord$Moment;)V"⟩
abbrev cX0_takeBack : ByteArray := prog_2_method_4_code
def yX0_takeBack : MethodName := ⟨RX0, "takeBack", "(LWrongWord$Moment;)Z"⟩
def RX1 : String := "WrongWord$Asks"
def TX1 : u_T := fun k => match k with
  | 0 => ("WrongWord$Asks", "bodies", "[I", true)
  | 1 => ("WrongWord$Asks", "begun", "I", false)
  | 2 => ("WrongWord$Asks", "number", "I", false)
  | 3 => ("WrongWord$Asks", "kind", "I", false)
  | 4 => ("WrongWord$Asks", "fee", "I", false)
  | _ => ("WrongWord$Asks", "took", "I", false)
def tyX1 : Nat → FieldType := fun k => match k with
  | 0 => .array .int
  | 1 => .int
  | 2 => .int
  | 3 => .int
  | 4 => .int
  | _ => .int
abbrev wsX10 : List Cond := u_ws RX1 TX1 6
theorem nmX1 : ∀ a, a < 6 → ∀ b, b < 6 → a ≠ b → (TX1 a).2.1 ≠ (TX1 b).2.1 := by decide +kernel
theorem tyX1_ok : ∀ k, k < 6 → parseFieldDescriptor (TX1 k).2.2.1 = some (tyX1 k) := by decide +kernel
abbrev cX1_init : ByteArray := prog_3_method_1_code
def yX1_init : MethodName := ⟨RX1, "<init>", "()V"⟩
abbrev cX1_isA : ByteArray := prog_3_method_2_code
def yX1_isA : MethodName := ⟨RX1, "isA", "(II)Z"⟩
abbrev cX1_turnTo : ByteArray := prog_3_method_3_code
def yX1_turnTo : MethodName := ⟨RX1, "turnTo", "(IIII)V"⟩
abbrev cX1_answer : ByteArray := prog_3_method_4_code
def yX1_answer : MethodName := ⟨RX1, "answer", "(I)I"⟩
abbrev cX1_sizeBody : ByteArray := prog_3_method_5_code
def yX1_sizeBody : MethodName := ⟨RX1, "sizeBody", "()I"⟩
abbrev cX1_markBody : ByteArray := prog_3_method_6_code
def yX1_markBody : MethodName := ⟨RX1, "markBody", "()I"⟩
abbrev cX1_leave : ByteArray := prog_3_method_7_code
def yX1_leave : MethodName := ⟨RX1, "leave", "(I)V"⟩
abbrev cX1_given : ByteArray := prog_3_method_8_code
def yX1_given : MethodName := ⟨RX1, "given", "(LWrongWord$Asks;II)I"⟩
def RX2 : String := "WrongWord$Gate"
def TX2 : u_T := fun k => match k with
  | 0 => ("WrongWord$Gate", "letters", "[I", true)
  | 1 => ("WrongWord$Gate", "kinds", "[I", true)
  | 2 => ("WrongWord$Gate", "fees", "[I", true)
  | 3 => ("WrongWord$Gate", "now", "LWrongWord$Moment;", true)
  | 4 => ("WrongWord$Gate", "step", "I", false)
  | 5 => ("WrongWord$Gate", "shrove", "I", false)
  | 6 => ("WrongWord$Gate", "words", "I", false)
  | _ => ("WrongWord$Gate", "guards", "I", false)
def tyX2 : Nat → FieldType := fun k => match k with
  | 0 => .array .int
  | 1 => .array .int
  | 2 => .array .int
  | 3 => .object "WrongWord$Moment"
  | 4 => .int
  | 5 => .int
  | 6 => .int
  | _ => .int
abbrev wsX20 : List Cond := u_ws RX2 TX2 8
theorem nmX2 : ∀ a, a < 8 → ∀ b, b < 8 → a ≠ b → (TX2 a).2.1 ≠ (TX2 b).2.1 := by decide +kernel
theorem tyX2_ok : ∀ k, k < 8 → parseFieldDescriptor (TX2 k).2.2.1 = some (tyX2 k) := by decide +kernel
abbrev cX2_init : ByteArray := prog_4_method_1_code
def yX2_init : MethodName := ⟨RX2, "<init>", "()V"⟩
abbrev cX2_become : ByteArray := prog_4_method_2_code
def yX2_become : MethodName := ⟨RX2, "become", "(LWrongWord$Gate;)V"⟩
abbrev cX2_secretBy : ByteArray := prog_4_method_3_code
def yX2_secretBy : MethodName := ⟨RX2, "secretBy", "(IIII)I"⟩
abbrev cX2_secretIn : ByteArray := prog_4_method_4_code
def yX2_secretIn : MethodName := ⟨RX2, "secretIn", "(I)I"⟩
abbrev cX2_distance : ByteArray := prog_4_method_5_code
def yX2_distance : MethodName := ⟨RX2, "distance", "(II)I"⟩
abbrev cX2_lips : ByteArray := prog_4_method_6_code
def yX2_lips : MethodName := ⟨RX2, "lips", "(II)I"⟩
abbrev cX2_guardOn : ByteArray := prog_4_method_7_code
def yX2_guardOn : MethodName := ⟨RX2, "guardOn", "(II)I"⟩
abbrev cX2_isThere : ByteArray := prog_4_method_8_code
def yX2_isThere : MethodName := ⟨RX2, "isThere", "(I)Z"⟩
abbrev cX2_wouldTake : ByteArray := prog_4_method_9_code
def yX2_wouldTake : MethodName := ⟨RX2, "wouldTake", "(IIII)Z"⟩
abbrev cX2_catchesIf : ByteArray := prog_4_method_10_code
def yX2_catchesIf : MethodName := ⟨RX2, "catchesIf", "(IIII)Z"⟩
abbrev cX2_catches : ByteArray := prog_4_method_11_code
def yX2_catches : MethodName := ⟨RX2, "catches", "(III)Z"⟩
abbrev cX2_hoursOf : ByteArray := prog_4_method_12_code
def yX2_hoursOf : MethodName := ⟨RX2, "hoursOf", "(I)I"⟩
abbrev cX2_wordsIn : ByteArray := prog_4_method_13_code
def yX2_wordsIn : MethodName := ⟨RX2, "wordsIn", "(II)I"⟩
abbrev cX2_hoursOpen : ByteArray := prog_4_method_14_code
def yX2_hoursOpen : MethodName := ⟨RX2, "hoursOpen", "(II)I"⟩
abbrev cX2_nightsUntil : ByteArray := prog_4_method_15_code
def yX2_nightsUntil : MethodName := ⟨RX2, "nightsUntil", "(I)I"⟩
abbrev cX2_hourIn : ByteArray := prog_4_method_16_code
def yX2_hourIn : MethodName := ⟨RX2, "hourIn", "(II)I"⟩
abbrev cX2_guardsAgainst : ByteArray := prog_4_method_17_code
def yX2_guardsAgainst : MethodName := ⟨RX2, "guardsAgainst", "(II)I"⟩
abbrev cX2_feeOf : ByteArray := prog_4_method_18_code
def yX2_feeOf : MethodName := ⟨RX2, "feeOf", "(I)I"⟩
abbrev cX2_nearestTo : ByteArray := prog_4_method_19_code
def yX2_nearestTo : MethodName := ⟨RX2, "nearestTo", "(I)I"⟩
def RX3 : String := "WrongWord$Guesses"
def TX3 : u_T := fun k => match k with
  | 0 => ("WrongWord$Guesses", "catching", "[I", true)
  | _ => ("WrongWord$Guesses", "menFor", "[I", true)
def tyX3 : Nat → FieldType := fun k => match k with
  | 0 => .array .int
  | _ => .array .int
abbrev wsX30 : List Cond := u_ws RX3 TX3 2
theorem nmX3 : ∀ a, a < 2 → ∀ b, b < 2 → a ≠ b → (TX3 a).2.1 ≠ (TX3 b).2.1 := by decide +kernel
theorem tyX3_ok : ∀ k, k < 2 → parseFieldDescriptor (TX3 k).2.2.1 = some (tyX3 k) := by decide +kernel
abbrev cX3_init : ByteArray := prog_5_method_1_code
def yX3_init : MethodName := ⟨RX3, "<init>", "()V"⟩
abbrev cX3_agreeing : ByteArray := prog_5_method_2_code
def yX3_agreeing : MethodName := ⟨RX3, "agreeing", "(LWrongWord$Gate;)I"⟩
abbrev cX3_agreesWithTries : ByteArray := prog_5_method_3_code
def yX3_agreesWithTries : MethodName := ⟨RX3, "agreesWithTries", "(LWrongWord$Gate;I)Z"⟩
abbrev cX3_secretsCatching : ByteArray := prog_5_method_4_code
def yX3_secretsCatching : MethodName := ⟨RX3, "secretsCatching", "(LWrongWord$Gate;II)I"⟩
abbrev cX3_leftAtWorst : ByteArray := prog_5_method_5_code
def yX3_leftAtWorst : MethodName := ⟨RX3, "leftAtWorst", "(LWrongWord$Gate;II)I"⟩
abbrev cX3_bestTry : ByteArray := prog_5_method_6_code
def yX3_bestTry : MethodName := ⟨RX3, "bestTry", "(LWrongWord$Gate;I)I"⟩
abbrev cX3_fewestMen : ByteArray := prog_5_method_7_code
def yX3_fewestMen : MethodName := ⟨RX3, "fewestMen", "(LWrongWord$Gate;I)I"⟩
abbrev cX3_menToSplit : ByteArray := prog_5_method_8_code
def yX3_menToSplit : MethodName := ⟨RX3, "menToSplit", "(II)I"⟩
def RX4 : String := "WrongWord$Moment"
def TX4 : u_T := fun k => match k with
  | 0 => ("WrongWord$Moment", "took", "[I", true)
  | 1 => ("WrongWord$Moment", "triedWord", "[I", true)
  | 2 => ("WrongWord$Moment", "triedGuard", "[I", true)
  | 3 => ("WrongWord$Moment", "triedTaken", "[I", true)
  | 4 => ("WrongWord$Moment", "night", "I", false)
  | 5 => ("WrongWord$Moment", "start", "I", false)
  | 6 => ("WrongWord$Moment", "there", "I", false)
  | _ => ("WrongWord$Moment", "tries", "I", false)
def tyX4 : Nat → FieldType := fun k => match k with
  | 0 => .array .int
  | 1 => .array .int
  | 2 => .array .int
  | 3 => .array .int
  | 4 => .int
  | 5 => .int
  | 6 => .int
  | _ => .int
abbrev wsX40 : List Cond := u_ws RX4 TX4 8
theorem nmX4 : ∀ a, a < 8 → ∀ b, b < 8 → a ≠ b → (TX4 a).2.1 ≠ (TX4 b).2.1 := by decide +kernel
theorem tyX4_ok : ∀ k, k < 8 → parseFieldDescriptor (TX4 k).2.2.1 = some (tyX4 k) := by decide +kernel
abbrev cX4_init : ByteArray := prog_6_method_1_code
def yX4_init : MethodName := ⟨RX4, "<init>", "()V"⟩
abbrev cX4_begin : ByteArray := prog_6_method_2_code
def yX4_begin : MethodName := ⟨RX4, "begin", "(I)V"⟩
abbrev cX4_become : ByteArray := prog_6_method_3_code
def yX4_become : MethodName := ⟨RX4, "become", "(LWrongWord$Moment;)V"⟩
abbrev cX4_goBy : ByteArray := prog_6_method_4_code
def yX4_goBy : MethodName := ⟨RX4, "goBy", "()V"⟩
abbrev cX4_addTry : ByteArray := prog_6_method_5_code
def yX4_addTry : MethodName := ⟨RX4, "addTry", "(IIZ)V"⟩
abbrev cX4_tookInAll : ByteArray := prog_6_method_6_code
def yX4_tookInAll : MethodName := ⟨RX4, "tookInAll", "()I"⟩
def RX5 : String := "WrongWord$Row"
def TX5 : u_T := fun k => match k with
  | 0 => ("WrongWord$Row", "items", "[I", true)
  | 1 => ("WrongWord$Row", "lane", "I", false)
  | _ => ("WrongWord$Row", "size", "I", false)
def tyX5 : Nat → FieldType := fun k => match k with
  | 0 => .array .int
  | 1 => .int
  | _ => .int
abbrev wsX50 : List Cond := u_ws RX5 TX5 3
theorem nmX5 : ∀ a, a < 3 → ∀ b, b < 3 → a ≠ b → (TX5 a).2.1 ≠ (TX5 b).2.1 := by decide +kernel
theorem tyX5_ok : ∀ k, k < 3 → parseFieldDescriptor (TX5 k).2.2.1 = some (tyX5 k) := by decide +kernel
abbrev cX5_init : ByteArray := prog_7_method_1_code
def yX5_init : MethodName := ⟨RX5, "<init>", "()V"⟩
abbrev cX5_make : ByteArray := prog_7_method_2_code
def yX5_make : MethodName := ⟨RX5, "make", "(II)V"⟩
abbrev cX5_reaches : ByteArray := prog_7_method_3_code
def yX5_reaches : MethodName := ⟨RX5, "reaches", "(II)Z"⟩
abbrev cX5_findingOf : ByteArray := prog_7_method_4_code
def yX5_findingOf : MethodName := ⟨RX5, "findingOf", "(II)I"⟩
abbrev cX5_put : ByteArray := prog_7_method_5_code
def yX5_put : MethodName := ⟨RX5, "put", "(II)I"⟩
def RX6 : String := "WrongWord$Tape"
def TX6 : u_T := fun k => match k with
  | 0 => ("WrongWord$Tape", "bytes", "[I", true)
  | 1 => ("WrongWord$Tape", "draft", "LWrongWord$Gate;", true)
  | 2 => ("WrongWord$Tape", "length", "I", false)
  | 3 => ("WrongWord$Tape", "fault", "I", false)
  | 4 => ("WrongWord$Tape", "place", "I", false)
  | 5 => ("WrongWord$Tape", "at", "I", false)
  | _ => ("WrongWord$Tape", "value", "I", false)
def tyX6 : Nat → FieldType := fun k => match k with
  | 0 => .array .int
  | 1 => .object "WrongWord$Gate"
  | 2 => .int
  | 3 => .int
  | 4 => .int
  | 5 => .int
  | _ => .int
abbrev wsX60 : List Cond := u_ws RX6 TX6 7
theorem nmX6 : ∀ a, a < 7 → ∀ b, b < 7 → a ≠ b → (TX6 a).2.1 ≠ (TX6 b).2.1 := by decide +kernel
theorem tyX6_ok : ∀ k, k < 7 → parseFieldDescriptor (TX6 k).2.2.1 = some (tyX6 k) := by decide +kernel
abbrev cX6_init : ByteArray := prog_8_method_1_code
def yX6_init : MethodName := ⟨RX6, "<init>", "()V"⟩
abbrev cX6_append : ByteArray := prog_8_method_2_code
def yX6_append : MethodName := ⟨RX6, "append", "(I)Z"⟩
abbrev cX6_read : ByteArray := prog_8_method_3_code
def yX6_read : MethodName := ⟨RX6, "read", "()Z"⟩
abbrev cX6_readLaw : ByteArray := prog_8_method_4_code
def yX6_readLaw : MethodName := ⟨RX6, "readLaw", "()Z"⟩
abbrev cX6_readWord : ByteArray := prog_8_method_5_code
def yX6_readWord : MethodName := ⟨RX6, "readWord", "()Z"⟩
abbrev cX6_wasTold : ByteArray := prog_8_method_6_code
def yX6_wasTold : MethodName := ⟨RX6, "wasTold", "(I)Z"⟩
abbrev cX6_readGuard : ByteArray := prog_8_method_7_code
def yX6_readGuard : MethodName := ⟨RX6, "readGuard", "()Z"⟩
abbrev cX6_kindOf : ByteArray := prog_8_method_8_code
def yX6_kindOf : MethodName := ⟨RX6, "kindOf", "(I)I"⟩
abbrev cX6_readSign : ByteArray := prog_8_method_9_code
def yX6_readSign : MethodName := ⟨RX6, "readSign", "(I)Z"⟩
abbrev cX6_readNumber : ByteArray := prog_8_method_10_code
def yX6_readNumber : MethodName := ⟨RX6, "readNumber", "(I)Z"⟩
abbrev cX6_isFigure : ByteArray := prog_8_method_11_code
def yX6_isFigure : MethodName := ⟨RX6, "isFigure", "(I)Z"⟩
abbrev cX6_here : ByteArray := prog_8_method_12_code
def yX6_here : MethodName := ⟨RX6, "here", "()I"⟩
abbrev cX6_faulty : ByteArray := prog_8_method_13_code
def yX6_faulty : MethodName := ⟨RX6, "faulty", "(I)Z"⟩
def RX7 : String := "WrongWord"
def TX7 : u_T := fun k => match k with
  | 0 => ("WrongWord", "rows", "[LWrongWord$Row;", true)
  | 1 => ("WrongWord", "tape", "LWrongWord$Tape;", true)
  | 2 => ("WrongWord", "gate", "LWrongWord$Gate;", true)
  | 3 => ("WrongWord", "acts", "LWrongWord$Acts;", true)
  | 4 => ("WrongWord", "images", "[LWrongWord$Gate;", true)
  | 5 => ("WrongWord", "guesses", "LWrongWord$Guesses;", true)
  | 6 => ("WrongWord", "asks", "LWrongWord$Asks;", true)
  | 7 => ("WrongWord", "latestFault", "I", false)
  | _ => ("WrongWord", "latestFinding", "I", false)
def tyX7 : Nat → FieldType := fun k => match k with
  | 0 => .array (.object "WrongWord$Row")
  | 1 => .object "WrongWord$Tape"
  | 2 => .object "WrongWord$Gate"
  | 3 => .object "WrongWord$Acts"
  | 4 => .array (.object "WrongWord$Gate")
  | 5 => .object "WrongWord$Guesses"
  | 6 => .object "WrongWord$Asks"
  | 7 => .int
  | _ => .int
abbrev wsX70 : List Cond := u_ws RX7 TX7 9
theorem nmX7 : ∀ a, a < 9 → ∀ b, b < 9 → a ≠ b → (TX7 a).2.1 ≠ (TX7 b).2.1 := by decide +kernel
theorem tyX7_ok : ∀ k, k < 9 → parseFieldDescriptor (TX7 k).2.2.1 = some (tyX7 k) := by decide +kernel
abbrev cX7_init : ByteArray := prog_1_method_1_code
def yX7_init : MethodName := ⟨RX7, "<init>", "()V"⟩
abbrev cX7_row : ByteArray := prog_1_method_2_code
def yX7_row : MethodName := ⟨RX7, "row", "(III)I"⟩
abbrev cX7_set : ByteArray := prog_1_method_3_code
def yX7_set : MethodName := ⟨RX7, "set", "(III)I"⟩
abbrev cX7_copy : ByteArray := prog_1_method_4_code
def yX7_copy : MethodName := ⟨RX7, "copy", "(IIIII)I"⟩
abbrev cX7_drop : ByteArray := prog_1_method_5_code
def yX7_drop : MethodName := ⟨RX7, "drop", "(I)I"⟩
abbrev cX7_feed : ByteArray := prog_1_method_6_code
def yX7_feed : MethodName := ⟨RX7, "feed", "(I)I"⟩
abbrev cX7_gate : ByteArray := prog_1_method_7_code
def yX7_gate : MethodName := ⟨RX7, "gate", "()I"⟩
abbrev cX7_fault : ByteArray := prog_1_method_8_code
def yX7_fault : MethodName := ⟨RX7, "fault", "()I"⟩
abbrev cX7_nights : ByteArray := prog_1_method_9_code
def yX7_nights : MethodName := ⟨RX7, "nights", "(I)I"⟩
abbrev cX7_say : ByteArray := prog_1_method_10_code
def yX7_say : MethodName := ⟨RX7, "say", "(II)I"⟩
abbrev cX7_start : ByteArray := prog_1_method_11_code
def yX7_start : MethodName := ⟨RX7, "start", "(I)I"⟩
abbrev cX7_dismiss : ByteArray := prog_1_method_12_code
def yX7_dismiss : MethodName := ⟨RX7, "dismiss", "(II)I"⟩
abbrev cX7_undo : ByteArray := prog_1_method_13_code
def yX7_undo : MethodName := ⟨RX7, "undo", "()I"⟩
abbrev cX7_letter : ByteArray := prog_1_method_14_code
def yX7_letter : MethodName := ⟨RX7, "letter", "(II)I"⟩
abbrev cX7_like : ByteArray := prog_1_method_15_code
def yX7_like : MethodName := ⟨RX7, "like", "(III)I"⟩
abbrev cX7_guard : ByteArray := prog_1_method_16_code
def yX7_guard : MethodName := ⟨RX7, "guard", "(II)I"⟩
abbrev cX7_tried : ByteArray := prog_1_method_17_code
def yX7_tried : MethodName := ⟨RX7, "tried", "(II)I"⟩
abbrev cX7_secret : ByteArray := prog_1_method_18_code
def yX7_secret : MethodName := ⟨RX7, "secret", "(I)I"⟩
abbrev cX7_taken : ByteArray := prog_1_method_19_code
def yX7_taken : MethodName := ⟨RX7, "taken", "(III)I"⟩
abbrev cX7_safe : ByteArray := prog_1_method_20_code
def yX7_safe : MethodName := ⟨RX7, "safe", "(II)I"⟩
abbrev cX7_open : ByteArray := prog_1_method_21_code
def yX7_open : MethodName := ⟨RX7, "open", "(II)I"⟩
abbrev cX7_next : ByteArray := prog_1_method_22_code
def yX7_next : MethodName := ⟨RX7, "next", "(I)I"⟩
abbrev cX7_agree : ByteArray := prog_1_method_23_code
def yX7_agree : MethodName := ⟨RX7, "agree", "()I"⟩
abbrev cX7_man : ByteArray := prog_1_method_24_code
def yX7_man : MethodName := ⟨RX7, "man", "(I)I"⟩
abbrev cX7_fewest : ByteArray := prog_1_method_25_code
def yX7_fewest : MethodName := ⟨RX7, "fewest", "()I"⟩
abbrev cX7_march : ByteArray := prog_1_method_26_code
def yX7_march : MethodName := ⟨RX7, "march", "(IIII)I"⟩
abbrev cX7_cheap : ByteArray := prog_1_method_27_code
def yX7_cheap : MethodName := ⟨RX7, "cheap", "(III)I"⟩
abbrev cX7_near : ByteArray := prog_1_method_28_code
def yX7_near : MethodName := ⟨RX7, "near", "(II)I"⟩
abbrev cX7_rules : ByteArray := prog_1_method_29_code
def yX7_rules : MethodName := ⟨RX7, "rules", "(IIII)I"⟩
abbrev cX7_fits : ByteArray := prog_1_method_30_code
def yX7_fits : MethodName := ⟨RX7, "fits", "(IIII)I"⟩
abbrev cX7_sure : ByteArray := prog_1_method_31_code
def yX7_sure : MethodName := ⟨RX7, "sure", "(IIII)I"⟩
abbrev cX7_drawn : ByteArray := prog_1_method_32_code
def yX7_drawn : MethodName := ⟨RX7, "drawn", "(III)I"⟩
abbrev cX7_image : ByteArray := prog_1_method_33_code
def yX7_image : MethodName := ⟨RX7, "image", "(I)I"⟩
abbrev cX7_restore : ByteArray := prog_1_method_34_code
def yX7_restore : MethodName := ⟨RX7, "restore", "(I)I"⟩
abbrev cX7_kind : ByteArray := prog_1_method_35_code
def yX7_kind : MethodName := ⟨RX7, "kind", "(I)I"⟩
abbrev cX7_as : ByteArray := prog_1_method_36_code
def yX7_as : MethodName := ⟨RX7, "as", "(II)I"⟩
abbrev cX7_ask : ByteArray := prog_1_method_37_code
def yX7_ask : MethodName := ⟨RX7, "ask", "(II)I"⟩
abbrev cX7_trace : ByteArray := prog_1_method_38_code
def yX7_trace : MethodName := ⟨RX7, "trace", "(I)I"⟩
abbrev cX7_count : ByteArray := prog_1_method_39_code
def yX7_count : MethodName := ⟨RX7, "count", "(I)I"⟩
abbrev cX7_status : ByteArray := prog_1_method_40_code
def yX7_status : MethodName := ⟨RX7, "status", "()I"⟩
abbrev cX7_found : ByteArray := prog_1_method_41_code
def yX7_found : MethodName := ⟨RX7, "found", "(I)I"⟩
abbrev cX7_unfound : ByteArray := prog_1_method_42_code
def yX7_unfound : MethodName := ⟨RX7, "unfound", "(I)I"⟩
abbrev cX7_noGate : ByteArray := prog_1_method_43_code
def yX7_noGate : MethodName := ⟨RX7, "noGate", "()Z"⟩
abbrev cX7_isRow : ByteArray := prog_1_method_44_code
def yX7_isRow : MethodName := ⟨RX7, "isRow", "(I)Z"⟩
abbrev cX7_isWord : ByteArray := prog_1_method_45_code
def yX7_isWord : MethodName := ⟨RX7, "isWord", "(I)Z"⟩
abbrev cX7_areWords : ByteArray := prog_1_method_46_code
def yX7_areWords : MethodName := ⟨RX7, "areWords", "(I)Z"⟩
abbrev cX7_isGuard : ByteArray := prog_1_method_47_code
def yX7_isGuard : MethodName := ⟨RX7, "isGuard", "(I)Z"⟩
abbrev cX7_isHour : ByteArray := prog_1_method_48_code
def yX7_isHour : MethodName := ⟨RX7, "isHour", "(I)Z"⟩
abbrev cX7_isAhead : ByteArray := prog_1_method_49_code
def yX7_isAhead : MethodName := ⟨RX7, "isAhead", "(I)Z"⟩
abbrev cX7_rowsThere : ByteArray := prog_1_method_50_code
def yX7_rowsThere : MethodName := ⟨RX7, "rowsThere", "()I"⟩
abbrev cX7_hourOfLast : ByteArray := prog_1_method_51_code
def yX7_hourOfLast : MethodName := ⟨RX7, "hourOfLast", "(LWrongWord$Row;II)I"⟩
abbrev cX7_rulesThatTell : ByteArray := prog_1_method_52_code
def yX7_rulesThatTell : MethodName := ⟨RX7, "rulesThatTell", "(LWrongWord$Row;III)I"⟩
abbrev cX7_kindsThatFit : ByteArray := prog_1_method_53_code
def yX7_kindsThatFit : MethodName := ⟨RX7, "kindsThatFit", "(LWrongWord$Row;I)I"⟩
abbrev cX7_secretsThatFit : ByteArray := prog_1_method_54_code
def yX7_secretsThatFit : MethodName := ⟨RX7, "secretsThatFit", "(ILWrongWord$Row;I)I"⟩
abbrev cX7_fitsTold : ByteArray := prog_1_method_55_code
def yX7_fitsTold : MethodName := ⟨RX7, "fitsTold", "(IILWrongWord$Row;I)Z"⟩
abbrev cX7_bit : ByteArray := prog_1_method_56_code
def yX7_bit : MethodName := ⟨RX7, "bit", "(Z)I"⟩
abbrev cX7_rest : ByteArray := prog_1_method_57_code
def yX7_rest : MethodName := ⟨RX7, "rest", "(II)I"⟩
abbrev cX7_lowest : ByteArray := prog_1_method_58_code
def yX7_lowest : MethodName := ⟨RX7, "lowest", "(II)I"⟩
abbrev cX7_commonDivisor : ByteArray := prog_1_method_59_code
def yX7_commonDivisor : MethodName := ⟨RX7, "commonDivisor", "(II)I"⟩
def RX8 : String := "WrongWordModel"
def TX8 : u_T := fun k => match k with
  | 0 => ("WrongWordModel", "lane", "[I", true)
  | 1 => ("WrongWordModel", "many", "[I", true)
  | 2 => ("WrongWordModel", "items", "[I", true)
  | 3 => ("WrongWordModel", "spare", "[I", true)
  | 4 => ("WrongWordModel", "status", "I", false)
  | 5 => ("WrongWordModel", "tape", "[I", true)
  | 6 => ("WrongWordModel", "taped", "I", false)
  | 7 => ("WrongWordModel", "faultKind", "I", false)
  | 8 => ("WrongWordModel", "faultPlace", "I", false)
  | 9 => ("WrongWordModel", "at", "I", false)
  | 10 => ("WrongWordModel", "start", "I", false)
  | 11 => ("WrongWordModel", "token", "I", false)
  | 12 => ("WrongWordModel", "value", "I", false)
  | 13 => ("WrongWordModel", "now", "[I", true)
  | 14 => ("WrongWordModel", "draft", "[I", true)
  | 15 => ("WrongWordModel", "tried", "[I", true)
  | 16 => ("WrongWordModel", "past", "[I", true)
  | 17 => ("WrongWordModel", "acts", "I", false)
  | 18 => ("WrongWordModel", "images", "[I", true)
  | 19 => ("WrongWordModel", "kept", "[Z", true)
  | 20 => ("WrongWordModel", "men", "[I", true)
  | 21 => ("WrongWordModel", "trace", "[I", true)
  | _ => ("WrongWordModel", "traced", "I", false)
def tyX8 : Nat → FieldType := fun k => match k with
  | 0 => .array .int
  | 1 => .array .int
  | 2 => .array .int
  | 3 => .array .int
  | 4 => .int
  | 5 => .array .int
  | 6 => .int
  | 7 => .int
  | 8 => .int
  | 9 => .int
  | 10 => .int
  | 11 => .int
  | 12 => .int
  | 13 => .array .int
  | 14 => .array .int
  | 15 => .array .int
  | 16 => .array .int
  | 17 => .int
  | 18 => .array .int
  | 19 => .array .boolean
  | 20 => .array .int
  | 21 => .array .int
  | _ => .int
abbrev wsX80 : List Cond := u_ws RX8 TX8 23
theorem nmX8 : ∀ a, a < 23 → ∀ b, b < 23 → a ≠ b → (TX8 a).2.1 ≠ (TX8 b).2.1 := by decide +kernel
theorem tyX8_ok : ∀ k, k < 23 → parseFieldDescriptor (TX8 k).2.2.1 = some (tyX8 k) := by decide +kernel
abbrev cX8_init : ByteArray := prog_10_method_1_code
def yX8_init : MethodName := ⟨RX8, "<init>", "()V"⟩
abbrev cX8_in : ByteArray := prog_10_method_3_code
def yX8_in : MethodName := ⟨RX8, "in", "(III)Z"⟩
abbrev cX8_has : ByteArray := prog_10_method_4_code
def yX8_has : MethodName := ⟨RX8, "has", "(II)Z"⟩
abbrev cX8_ones : ByteArray := prog_10_method_5_code
def yX8_ones : MethodName := ⟨RX8, "ones", "(I)I"⟩
abbrev cX8_found : ByteArray := prog_10_method_6_code
def yX8_found : MethodName := ⟨RX8, "found", "(I)I"⟩
abbrev cX8_well : ByteArray := prog_10_method_7_code
def yX8_well : MethodName := ⟨RX8, "well", "(I)I"⟩
abbrev cX8_copies : ByteArray := prog_10_method_8_code
def yX8_copies : MethodName := ⟨RX8, "copies", "([II[II)V"⟩
abbrev cX8_isRow : ByteArray := prog_10_method_9_code
def yX8_isRow : MethodName := ⟨RX8, "isRow", "(I)Z"⟩
abbrev cX8_isMissing : ByteArray := prog_10_method_10_code
def yX8_isMissing : MethodName := ⟨RX8, "isMissing", "(I)Z"⟩
abbrev cX8_cut : ByteArray := prog_10_method_11_code
def yX8_cut : MethodName := ⟨RX8, "cut", "(II)I"⟩
abbrev cX8_row : ByteArray := prog_10_method_12_code
def yX8_row : MethodName := ⟨RX8, "row", "(III)I"⟩
abbrev cX8_set : ByteArray := prog_10_method_13_code
def yX8_set : MethodName := ⟨RX8, "set", "(III)I"⟩
abbrev cX8_isPart : ByteArray := prog_10_method_14_code
def yX8_isPart : MethodName := ⟨RX8, "isPart", "(III)Z"⟩
abbrev cX8_copy : ByteArray := prog_10_method_15_code
def yX8_copy : MethodName := ⟨RX8, "copy", "(IIIII)I"⟩
abbrev cX8_drop : ByteArray := prog_10_method_16_code
def yX8_drop : MethodName := ⟨RX8, "drop", "(I)I"⟩
abbrev cX8_feed : ByteArray := prog_10_method_17_code
def yX8_feed : MethodName := ⟨RX8, "feed", "(I)I"⟩
abbrev cX8_byteAt : ByteArray := prog_10_method_18_code
def yX8_byteAt : MethodName := ⟨RX8, "byteAt", "(I)I"⟩
abbrev cX8_advances : ByteArray := prog_10_method_19_code
def yX8_advances : MethodName := ⟨RX8, "advances", "()V"⟩
abbrev cX8_isWell : ByteArray := prog_10_method_20_code
def yX8_isWell : MethodName := ⟨RX8, "isWell", "()Z"⟩
abbrev cX8_takes : ByteArray := prog_10_method_21_code
def yX8_takes : MethodName := ⟨RX8, "takes", "(ZI)I"⟩
abbrev cX8_figure : ByteArray := prog_10_method_22_code
def yX8_figure : MethodName := ⟨RX8, "figure", "(II)I"⟩
abbrev cX8_kindOf : ByteArray := prog_10_method_23_code
def yX8_kindOf : MethodName := ⟨RX8, "kindOf", "(I)I"⟩
abbrev cX8_follows : ByteArray := prog_10_method_24_code
def yX8_follows : MethodName := ⟨RX8, "follows", "(II)I"⟩
abbrev cX8_isTold : ByteArray := prog_10_method_25_code
def yX8_isTold : MethodName := ⟨RX8, "isTold", "(III)Z"⟩
abbrev cX8_letterOf : ByteArray := prog_10_method_26_code
def yX8_letterOf : MethodName := ⟨RX8, "letterOf", "()I"⟩
abbrev cX8_readsWord : ByteArray := prog_10_method_27_code
def yX8_readsWord : MethodName := ⟨RX8, "readsWord", "()V"⟩
abbrev cX8_readsGuard : ByteArray := prog_10_method_28_code
def yX8_readsGuard : MethodName := ⟨RX8, "readsGuard", "()V"⟩
abbrev cX8_must : ByteArray := prog_10_method_29_code
def yX8_must : MethodName := ⟨RX8, "must", "(Z)V"⟩
abbrev cX8_gate : ByteArray := prog_10_method_30_code
def yX8_gate : MethodName := ⟨RX8, "gate", "()I"⟩
abbrev cX8_fault : ByteArray := prog_10_method_31_code
def yX8_fault : MethodName := ⟨RX8, "fault", "()I"⟩
abbrev cX8_isGate : ByteArray := prog_10_method_32_code
def yX8_isGate : MethodName := ⟨RX8, "isGate", "()Z"⟩
abbrev cX8_isWord : ByteArray := prog_10_method_33_code
def yX8_isWord : MethodName := ⟨RX8, "isWord", "(I)Z"⟩
abbrev cX8_isGuard : ByteArray := prog_10_method_34_code
def yX8_isGuard : MethodName := ⟨RX8, "isGuard", "(I)Z"⟩
abbrev cX8_isHour : ByteArray := prog_10_method_35_code
def yX8_isHour : MethodName := ⟨RX8, "isHour", "(I)Z"⟩
abbrev cX8_isFar : ByteArray := prog_10_method_36_code
def yX8_isFar : MethodName := ⟨RX8, "isFar", "(I)Z"⟩
abbrev cX8_areWords : ByteArray := prog_10_method_37_code
def yX8_areWords : MethodName := ⟨RX8, "areWords", "(I)Z"⟩
abbrev cX8_secretOf : ByteArray := prog_10_method_38_code
def yX8_secretOf : MethodName := ⟨RX8, "secretOf", "([II)I"⟩
abbrev cX8_distance : ByteArray := prog_10_method_39_code
def yX8_distance : MethodName := ⟨RX8, "distance", "(II)I"⟩
abbrev cX8_lips : ByteArray := prog_10_method_40_code
def yX8_lips : MethodName := ⟨RX8, "lips", "(II)I"⟩
abbrev cX8_takesBy : ByteArray := prog_10_method_41_code
def yX8_takesBy : MethodName := ⟨RX8, "takesBy", "(IIII)Z"⟩
abbrev cX8_guardOn : ByteArray := prog_10_method_42_code
def yX8_guardOn : MethodName := ⟨RX8, "guardOn", "(II)I"⟩
abbrev cX8_kindIn : ByteArray := prog_10_method_43_code
def yX8_kindIn : MethodName := ⟨RX8, "kindIn", "(I)I"⟩
abbrev cX8_isTaken : ByteArray := prog_10_method_44_code
def yX8_isTaken : MethodName := ⟨RX8, "isTaken", "(IIIII)Z"⟩
abbrev cX8_isTakenNow : ByteArray := prog_10_method_45_code
def yX8_isTakenNow : MethodName := ⟨RX8, "isTakenNow", "(III)Z"⟩
abbrev cX8_notes : ByteArray := prog_10_method_46_code
def yX8_notes : MethodName := ⟨RX8, "notes", "()V"⟩
abbrev cX8_forgets : ByteArray := prog_10_method_47_code
def yX8_forgets : MethodName := ⟨RX8, "forgets", "()V"⟩
abbrev cX8_nights : ByteArray := prog_10_method_48_code
def yX8_nights : MethodName := ⟨RX8, "nights", "(I)I"⟩
abbrev cX8_say : ByteArray := prog_10_method_49_code
def yX8_say : MethodName := ⟨RX8, "say", "(II)I"⟩
abbrev cX8_start : ByteArray := prog_10_method_50_code
def yX8_start : MethodName := ⟨RX8, "start", "(I)I"⟩
abbrev cX8_dismiss : ByteArray := prog_10_method_51_code
def yX8_dismiss : MethodName := ⟨RX8, "dismiss", "(II)I"⟩
abbrev cX8_undo : ByteArray := prog_10_method_52_code
def yX8_undo : MethodName := ⟨RX8, "undo", "()I"⟩
abbrev cX8_letter : ByteArray := prog_10_method_53_code
def yX8_letter : MethodName := ⟨RX8, "letter", "(II)I"⟩
abbrev cX8_like : ByteArray := prog_10_method_54_code
def yX8_like : MethodName := ⟨RX8, "like", "(III)I"⟩
abbrev cX8_hoursOf : ByteArray := prog_10_method_55_code
def yX8_hoursOf : MethodName := ⟨RX8, "hoursOf", "(I)I"⟩
abbrev cX8_guard : ByteArray := prog_10_method_56_code
def yX8_guard : MethodName := ⟨RX8, "guard", "(II)I"⟩
abbrev cX8_tried : ByteArray := prog_10_method_57_code
def yX8_tried : MethodName := ⟨RX8, "tried", "(II)I"⟩
abbrev cX8_secret : ByteArray := prog_10_method_58_code
def yX8_secret : MethodName := ⟨RX8, "secret", "(I)I"⟩
abbrev cX8_taken : ByteArray := prog_10_method_59_code
def yX8_taken : MethodName := ⟨RX8, "taken", "(III)I"⟩
abbrev cX8_safe : ByteArray := prog_10_method_60_code
def yX8_safe : MethodName := ⟨RX8, "safe", "(II)I"⟩
abbrev cX8_areIn : ByteArray := prog_10_method_61_code
def yX8_areIn : MethodName := ⟨RX8, "areIn", "(IIII)Z"⟩
abbrev cX8_open : ByteArray := prog_10_method_62_code
def yX8_open : MethodName := ⟨RX8, "open", "(II)I"⟩
abbrev cX8_next : ByteArray := prog_10_method_63_code
def yX8_next : MethodName := ⟨RX8, "next", "(I)I"⟩
abbrev cX8_agreeing : ByteArray := prog_10_method_64_code
def yX8_agreeing : MethodName := ⟨RX8, "agreeing", "()I"⟩
abbrev cX8_agree : ByteArray := prog_10_method_65_code
def yX8_agree : MethodName := ⟨RX8, "agree", "()I"⟩
abbrev cX8_takenOf : ByteArray := prog_10_method_66_code
def yX8_takenOf : MethodName := ⟨RX8, "takenOf", "(III)I"⟩
abbrev cX8_man : ByteArray := prog_10_method_67_code
def yX8_man : MethodName := ⟨RX8, "man", "(I)I"⟩
abbrev cX8_menFor : ByteArray := prog_10_method_68_code
def yX8_menFor : MethodName := ⟨RX8, "menFor", "(I)I"⟩
abbrev cX8_fewest : ByteArray := prog_10_method_69_code
def yX8_fewest : MethodName := ⟨RX8, "fewest", "()I"⟩
abbrev cX8_march : ByteArray := prog_10_method_70_code
def yX8_march : MethodName := ⟨RX8, "march", "(IIII)I"⟩
abbrev cX8_cheap : ByteArray := prog_10_method_71_code
def yX8_cheap : MethodName := ⟨RX8, "cheap", "(III)I"⟩
abbrev cX8_near : ByteArray := prog_10_method_72_code
def yX8_near : MethodName := ⟨RX8, "near", "(II)I"⟩
abbrev cX8_rules : ByteArray := prog_10_method_73_code
def yX8_rules : MethodName := ⟨RX8, "rules", "(IIII)I"⟩
abbrev cX8_takesSo : ByteArray := prog_10_method_74_code
def yX8_takesSo : MethodName := ⟨RX8, "takesSo", "(III)Z"⟩
abbrev cX8_fits : ByteArray := prog_10_method_75_code
def yX8_fits : MethodName := ⟨RX8, "fits", "(IIII)I"⟩
abbrev cX8_sure : ByteArray := prog_10_method_76_code
def yX8_sure : MethodName := ⟨RX8, "sure", "(IIII)I"⟩
abbrev cX8_drawn : ByteArray := prog_10_method_77_code
def yX8_drawn : MethodName := ⟨RX8, "drawn", "(III)I"⟩
abbrev cX8_image : ByteArray := prog_10_method_78_code
def yX8_image : MethodName := ⟨RX8, "image", "(I)I"⟩
abbrev cX8_restore : ByteArray := prog_10_method_79_code
def yX8_restore : MethodName := ⟨RX8, "restore", "(I)I"⟩
abbrev cX8_kind : ByteArray := prog_10_method_80_code
def yX8_kind : MethodName := ⟨RX8, "kind", "(I)I"⟩
abbrev cX8_as : ByteArray := prog_10_method_81_code
def yX8_as : MethodName := ⟨RX8, "as", "(II)I"⟩
abbrev cX8_begins : ByteArray := prog_10_method_82_code
def yX8_begins : MethodName := ⟨RX8, "begins", "(I)V"⟩
abbrev cX8_keenMark : ByteArray := prog_10_method_83_code
def yX8_keenMark : MethodName := ⟨RX8, "keenMark", "(I)I"⟩
abbrev cX8_deafSize : ByteArray := prog_10_method_84_code
def yX8_deafSize : MethodName := ⟨RX8, "deafSize", "(I)I"⟩
abbrev cX8_keenSize : ByteArray := prog_10_method_85_code
def yX8_keenSize : MethodName := ⟨RX8, "keenSize", "(I)I"⟩
abbrev cX8_deafMark : ByteArray := prog_10_method_86_code
def yX8_deafMark : MethodName := ⟨RX8, "deafMark", "(I)I"⟩
abbrev cX8_ask : ByteArray := prog_10_method_87_code
def yX8_ask : MethodName := ⟨RX8, "ask", "(II)I"⟩
abbrev cX8_trace : ByteArray := prog_10_method_88_code
def yX8_trace : MethodName := ⟨RX8, "trace", "(I)I"⟩
abbrev cX8_count : ByteArray := prog_10_method_89_code
def yX8_count : MethodName := ⟨RX8, "count", "(I)I"⟩
abbrev cX8_status : ByteArray := prog_10_method_90_code
def yX8_status : MethodName := ⟨RX8, "status", "()I"⟩
def RJ6 : String := "java/lang/Integer"
def TJ6 : u_T := fun k => match k with
  | _ => ("", "", "", false)
def tyJ6 : Nat → FieldType := fun k => match k with
  | _ => .int
abbrev wsJ60 : List Cond := u_ws RJ6 TJ6 0
theorem nmJ6 : ∀ a, a < 0 → ∀ b, b < 0 → a ≠ b → (TJ6 a).2.1 ≠ (TJ6 b).2.1 := by decide +kernel
theorem tyJ6_ok : ∀ k, k < 0 → parseFieldDescriptor (TJ6 k).2.2.1 = some (tyJ6 k) := by decide +kernel
abbrev cJ6_bitCount_0f7a4 : ByteArray := prog_11_method_49_code
def yJ6_bitCount_0f7a4 : MethodName := ⟨RJ6, "bitCount", "(I)I"⟩
def RJ9 : String := "java/lang/Math"
def TJ9 : u_T := fun k => match k with
  | _ => ("", "", "", false)
def tyJ9 : Nat → FieldType := fun k => match k with
  | _ => .int
abbrev wsJ90 : List Cond := u_ws RJ9 TJ9 0
theorem nmJ9 : ∀ a, a < 0 → ∀ b, b < 0 → a ≠ b → (TJ9 a).2.1 ≠ (TJ9 b).2.1 := by decide +kernel
theorem tyJ9_ok : ∀ k, k < 0 → parseFieldDescriptor (TJ9 k).2.2.1 = some (tyJ9 k) := by decide +kernel
abbrev cJ9_max_7cf53 : ByteArray := prog_12_method_65_code
def yJ9_max_7cf53 : MethodName := ⟨RJ9, "max", "(II)I"⟩
abbrev cJ9_min_7cf53 : ByteArray := prog_12_method_69_code
def yJ9_min_7cf53 : MethodName := ⟨RJ9, "min", "(II)I"⟩
def RJ10 : String := "java/lang/System"
def TJ10 : u_T := fun k => match k with
  | _ => ("", "", "", false)
def tyJ10 : Nat → FieldType := fun k => match k with
  | _ => .int
abbrev wsJ100 : List Cond := u_ws RJ10 TJ10 0
theorem nmJ10 : ∀ a, a < 0 → ∀ b, b < 0 → a ≠ b → (TJ10 a).2.1 ≠ (TJ10 b).2.1 := by decide +kernel
theorem tyJ10_ok : ∀ k, k < 0 → parseFieldDescriptor (TJ10 k).2.2.1 = some (tyJ10 k) := by decide +kernel
def RL : String := "WrongWordLaw"
abbrev cL_law : ByteArray := code
def yL_law : MethodName := ⟨RL, "law", "([I)Z"⟩
set_option maxRecDepth 100000 in
theorem mem_r {big : List Cond} (ws : List Cond) (ps : List Nat) (hp : ws = ps.filterMap (fun i => big[i]?)) : ∀ w ∈ ws, w ∈ big := fun w hw => by
  rw [hp] at hw
  obtain ⟨i, -, hi⟩ := List.mem_filterMap.mp hw
  first | exact List.mem_of_getElem? hi | exact List.getElem?_mem hi
theorem gd_o {ws : List Cond} (h : ws.all goodWord = true) : ∀ w ∈ ws, goodWord w = true := fun w hw => List.all_eq_true.mp h w hw
theorem ch_0 : ∀ w ∈ k2_sels lw_privs, w ∈ lw_tbl := fun _ h => List.mem_append_left _ h
theorem ch_1 : ∀ w ∈ tables_1_1, w ∈ lw_tbl := fun _ h => List.mem_append_right _ (List.mem_append_left _ h)
theorem ch_2 : ∀ w ∈ tables_1_2, w ∈ lw_tbl := fun _ h => List.mem_append_right _ (List.mem_append_right _ (List.mem_append_left _ h))
theorem ch_3 : ∀ w ∈ tables_1_3, w ∈ lw_tbl := fun _ h => List.mem_append_right _ (List.mem_append_right _ (List.mem_append_right _ (List.mem_append_left _ h)))
theorem ch_4 : ∀ w ∈ tables_1_4, w ∈ lw_tbl := fun _ h => List.mem_append_right _ (List.mem_append_right _ (List.mem_append_right _ (List.mem_append_right _ (List.mem_append_left _ h))))
theorem ch_5 : ∀ w ∈ tables_1_5, w ∈ lw_tbl := fun _ h => List.mem_append_right _ (List.mem_append_right _ (List.mem_append_right _ (List.mem_append_right _ (List.mem_append_right _ (h)))))
set_option maxRecDepth 100000 in
theorem itX00 : ∀ w ∈ wsX00, w ∈ lw_tbl := by decide +kernel
set_option maxRecDepth 100000 in
theorem gdX00 : ∀ w ∈ wsX00, goodWord w = true := by decide +kernel
set_option maxRecDepth 100000 in
theorem itX10 : ∀ w ∈ wsX10, w ∈ lw_tbl := by decide +kernel
set_option maxRecDepth 100000 in
theorem gdX10 : ∀ w ∈ wsX10, goodWord w = true := by decide +kernel
set_option maxRecDepth 100000 in
theorem itX20 : ∀ w ∈ wsX20, w ∈ lw_tbl := by decide +kernel
set_option maxRecDepth 100000 in
theorem gdX20 : ∀ w ∈ wsX20, goodWord w = true := by decide +kernel
set_option maxRecDepth 100000 in
theorem itX30 : ∀ w ∈ wsX30, w ∈ lw_tbl := by decide +kernel
set_option maxRecDepth 100000 in
theorem gdX30 : ∀ w ∈ wsX30, goodWord w = true := by decide +kernel
set_option maxRecDepth 100000 in
theorem itX40 : ∀ w ∈ wsX40, w ∈ lw_tbl := by decide +kernel
set_option maxRecDepth 100000 in
theorem gdX40 : ∀ w ∈ wsX40, goodWord w = true := by decide +kernel
set_option maxRecDepth 100000 in
theorem itX50 : ∀ w ∈ wsX50, w ∈ lw_tbl := by decide +kernel
set_option maxRecDepth 100000 in
theorem gdX50 : ∀ w ∈ wsX50, goodWord w = true := by decide +kernel
set_option maxRecDepth 100000 in
theorem itX60 : ∀ w ∈ wsX60, w ∈ lw_tbl := by decide +kernel
set_option maxRecDepth 100000 in
theorem gdX60 : ∀ w ∈ wsX60, goodWord w = true := by decide +kernel
set_option maxRecDepth 100000 in
theorem itX70 : ∀ w ∈ wsX70, w ∈ lw_tbl := by decide +kernel
set_option maxRecDepth 100000 in
theorem gdX70 : ∀ w ∈ wsX70, goodWord w = true := by decide +kernel
set_option maxRecDepth 100000 in
theorem itX80 : ∀ w ∈ wsX80, w ∈ lw_tbl := by decide +kernel
set_option maxRecDepth 100000 in
theorem gdX80 : ∀ w ∈ wsX80, goodWord w = true := by decide +kernel
def wsX4_init_o : List Cond := (([Cond.methodLink RX4 3 objectInit, Cond.instanceMethod objectInit, Cond.code objectInit ⟨#[0xb1]⟩ 1 none, Cond.arrayClass .int, Cond.fieldLink RX4 9 "WrongWord$Moment" "took" "[I", Cond.fieldLink RX4 15 "WrongWord$Moment" "triedWord" "[I", Cond.fieldLink RX4 18 "WrongWord$Moment" "triedGuard" "[I", Cond.fieldLink RX4 21 "WrongWord$Moment" "triedTaken" "[I"] : List Cond) ++ ([] : List Cond))
def wsX4_init : List Cond := .code yX4_init cX4_init 1 none :: (wsX4_init_o ++ (wsX40 ++ ([] : List Cond)))
set_option maxRecDepth 100000 in
theorem itX4_init_o : ∀ w ∈ wsX4_init_o, w ∈ lw_tbl := List.forall_mem_append.mpr ⟨fun w h => ch_1 w (mem_r (big := tables_1_1) _ [40, 19, 20, 83, 41, 43, 46, 49] (by decide +kernel) w h), fun _ h => absurd h List.not_mem_nil⟩
set_option maxRecDepth 100000 in
theorem itX4_init : ∀ w ∈ wsX4_init, w ∈ lw_tbl := List.forall_mem_cons.mpr ⟨ch_1 _ (List.mem_of_getElem? (l := tables_1_1) (i := 39) (by decide +kernel)), List.forall_mem_append.mpr ⟨itX4_init_o, List.forall_mem_append.mpr ⟨itX40, fun _ h => absurd h List.not_mem_nil⟩⟩⟩
set_option maxRecDepth 100000 in
theorem gdX4_init_o : ∀ w ∈ wsX4_init_o, goodWord w = true := gd_o (by decide +kernel)
set_option maxRecDepth 100000 in
theorem gdX4_init : ∀ w ∈ wsX4_init, goodWord w = true := List.forall_mem_cons.mpr ⟨by decide +kernel, List.forall_mem_append.mpr ⟨gdX4_init_o, List.forall_mem_append.mpr ⟨gdX40, fun _ h => absurd h List.not_mem_nil⟩⟩⟩
def wsX0_init_o : List Cond := (([Cond.methodLink RX0 3 objectInit, Cond.classLink RX0 9 RX4, Cond.fieldLink RX0 11 "WrongWord$Acts" "ahead" "[LWrongWord$Moment;", Cond.instantiable RX4 8, Cond.initialized RX4, Cond.instanceMethod yX4_init] : List Cond) ++ ([] : List Cond))
def wsX0_init : List Cond := .code yX0_init cX0_init 2 none :: (wsX0_init_o ++ (wsX00 ++ (wsX40 ++ (wsX4_init ++ ([] : List Cond)))))
set_option maxRecDepth 100000 in
theorem itX0_init_o : ∀ w ∈ wsX0_init_o, w ∈ lw_tbl := List.forall_mem_append.mpr ⟨fun w h => ch_1 w (mem_r (big := tables_1_1) _ [162, 163, 166, 36, 4, 38] (by decide +kernel) w h), fun _ h => absurd h List.not_mem_nil⟩
set_option maxRecDepth 100000 in
theorem itX0_init : ∀ w ∈ wsX0_init, w ∈ lw_tbl := List.forall_mem_cons.mpr ⟨ch_1 _ (List.mem_of_getElem? (l := tables_1_1) (i := 161) (by decide +kernel)), List.forall_mem_append.mpr ⟨itX0_init_o, List.forall_mem_append.mpr ⟨itX00, List.forall_mem_append.mpr ⟨itX40, List.forall_mem_append.mpr ⟨itX4_init, fun _ h => absurd h List.not_mem_nil⟩⟩⟩⟩⟩
set_option maxRecDepth 100000 in
theorem gdX0_init_o : ∀ w ∈ wsX0_init_o, goodWord w = true := gd_o (by decide +kernel)
set_option maxRecDepth 100000 in
theorem gdX0_init : ∀ w ∈ wsX0_init, goodWord w = true := List.forall_mem_cons.mpr ⟨by decide +kernel, List.forall_mem_append.mpr ⟨gdX0_init_o, List.forall_mem_append.mpr ⟨gdX00, List.forall_mem_append.mpr ⟨gdX40, List.forall_mem_append.mpr ⟨gdX4_init, fun _ h => absurd h List.not_mem_nil⟩⟩⟩⟩⟩
def wsX0_forget_o : List Cond := (([Cond.fieldLink RX0 18 "WrongWord$Acts" "kept" "I"] : List Cond) ++ ([] : List Cond))
def wsX0_forget : List Cond := .code yX0_forget cX0_forget 1 none :: (wsX0_forget_o ++ (wsX00 ++ ([] : List Cond)))
set_option maxRecDepth 100000 in
theorem itX0_forget_o : ∀ w ∈ wsX0_forget_o, w ∈ lw_tbl := List.forall_mem_append.mpr ⟨fun w h => ch_1 w (mem_r (big := tables_1_1) _ [168] (by decide +kernel) w h), fun _ h => absurd h List.not_mem_nil⟩
set_option maxRecDepth 100000 in
theorem itX0_forget : ∀ w ∈ wsX0_forget, w ∈ lw_tbl := List.forall_mem_cons.mpr ⟨ch_2 _ (List.mem_of_getElem? (l := tables_1_2) (i := 152) (by decide +kernel)), List.forall_mem_append.mpr ⟨itX0_forget_o, List.forall_mem_append.mpr ⟨itX00, fun _ h => absurd h List.not_mem_nil⟩⟩⟩
set_option maxRecDepth 100000 in
theorem gdX0_forget_o : ∀ w ∈ wsX0_forget_o, goodWord w = true := gd_o (by decide +kernel)
set_option maxRecDepth 100000 in
theorem gdX0_forget : ∀ w ∈ wsX0_forget, goodWord w = true := List.forall_mem_cons.mpr ⟨by decide +kernel, List.forall_mem_append.mpr ⟨gdX0_forget_o, List.forall_mem_append.mpr ⟨gdX00, fun _ h => absurd h List.not_mem_nil⟩⟩⟩
def wsX4_become_o : List Cond := (([Cond.fieldLink RX4 24 "WrongWord$Moment" "night" "I", Cond.fieldLink RX4 34 "WrongWord$Moment" "start" "I", Cond.fieldLink RX4 28 "WrongWord$Moment" "there" "I", Cond.fieldLink RX4 31 "WrongWord$Moment" "tries" "I", Cond.fieldLink RX4 9 "WrongWord$Moment" "took" "[I", Cond.initialized "java/lang/System", Cond.fieldLink RX4 15 "WrongWord$Moment" "triedWord" "[I", Cond.fieldLink RX4 18 "WrongWord$Moment" "triedGuard" "[I", Cond.fieldLink RX4 21 "WrongWord$Moment" "triedTaken" "[I"] : List Cond) ++ (([Cond.methodLink RX4 37 arraycopyName, Cond.native arraycopyName, Cond.static arraycopyName] : List Cond) ++ ([] : List Cond)))
def wsX4_become : List Cond := .code yX4_become cX4_become 2 none :: (wsX4_become_o ++ (wsX40 ++ ([] : List Cond)))
set_option maxRecDepth 100000 in
theorem itX4_become_o : ∀ w ∈ wsX4_become_o, w ∈ lw_tbl := List.forall_mem_append.mpr ⟨fun w h => ch_1 w (mem_r (big := tables_1_1) _ [52, 56, 60, 63, 41, 10, 43, 46, 49] (by decide +kernel) w h), List.forall_mem_append.mpr ⟨fun w h => ch_2 w (mem_r (big := tables_1_2) _ [148, 69, 68] (by decide +kernel) w h), fun _ h => absurd h List.not_mem_nil⟩⟩
set_option maxRecDepth 100000 in
theorem itX4_become : ∀ w ∈ wsX4_become, w ∈ lw_tbl := List.forall_mem_cons.mpr ⟨ch_2 _ (List.mem_of_getElem? (l := tables_1_2) (i := 147) (by decide +kernel)), List.forall_mem_append.mpr ⟨itX4_become_o, List.forall_mem_append.mpr ⟨itX40, fun _ h => absurd h List.not_mem_nil⟩⟩⟩
set_option maxRecDepth 100000 in
theorem gdX4_become_o : ∀ w ∈ wsX4_become_o, goodWord w = true := gd_o (by decide +kernel)
set_option maxRecDepth 100000 in
theorem gdX4_become : ∀ w ∈ wsX4_become, goodWord w = true := List.forall_mem_cons.mpr ⟨by decide +kernel, List.forall_mem_append.mpr ⟨gdX4_become_o, List.forall_mem_append.mpr ⟨gdX40, fun _ h => absurd h List.not_mem_nil⟩⟩⟩
def wsX0_keep_o : List Cond := (([Cond.fieldLink RX0 11 "WrongWord$Acts" "ahead" "[LWrongWord$Moment;", Cond.fieldLink RX0 22 "WrongWord$Acts" "at" "I", Cond.fieldLink RX0 18 "WrongWord$Acts" "kept" "I", Cond.initialized "java/lang/Math", Cond.initialized RX4] : List Cond) ++ (([Cond.methodLink RX0 29 Lib.Math.min.name, Cond.static Lib.Math.min.name, Cond.code Lib.Math.min.name Lib.Math.min.code 2 (some .int), Cond.methodLink RX0 25 yX4_become, Cond.instanceMethod yX4_become, Cond.selects RX4 yX4_become yX4_become] : List Cond) ++ ([] : List Cond)))
def wsX0_keep : List Cond := .code yX0_keep cX0_keep 2 none :: (wsX0_keep_o ++ (wsX00 ++ (wsX40 ++ (wsX4_become ++ ([] : List Cond)))))
set_option maxRecDepth 100000 in
theorem itX0_keep_o : ∀ w ∈ wsX0_keep_o, w ∈ lw_tbl := List.forall_mem_append.mpr ⟨fun w h => ch_1 w (mem_r (big := tables_1_1) _ [166, 167, 168, 11, 4] (by decide +kernel) w h), List.forall_mem_append.mpr ⟨fun w h => ch_2 w (mem_r (big := tables_1_2) _ [171, 172, 173, 170, 145, 146] (by decide +kernel) w h), fun _ h => absurd h List.not_mem_nil⟩⟩
set_option maxRecDepth 100000 in
theorem itX0_keep : ∀ w ∈ wsX0_keep, w ∈ lw_tbl := List.forall_mem_cons.mpr ⟨ch_2 _ (List.mem_of_getElem? (l := tables_1_2) (i := 169) (by decide +kernel)), List.forall_mem_append.mpr ⟨itX0_keep_o, List.forall_mem_append.mpr ⟨itX00, List.forall_mem_append.mpr ⟨itX40, List.forall_mem_append.mpr ⟨itX4_become, fun _ h => absurd h List.not_mem_nil⟩⟩⟩⟩⟩
set_option maxRecDepth 100000 in
theorem gdX0_keep_o : ∀ w ∈ wsX0_keep_o, goodWord w = true := gd_o (by decide +kernel)
set_option maxRecDepth 100000 in
theorem gdX0_keep : ∀ w ∈ wsX0_keep, goodWord w = true := List.forall_mem_cons.mpr ⟨by decide +kernel, List.forall_mem_append.mpr ⟨gdX0_keep_o, List.forall_mem_append.mpr ⟨gdX00, List.forall_mem_append.mpr ⟨gdX40, List.forall_mem_append.mpr ⟨gdX4_become, fun _ h => absurd h List.not_mem_nil⟩⟩⟩⟩⟩
def wsX0_takeBack_o : List Cond := (([Cond.fieldLink RX0 18 "WrongWord$Acts" "kept" "I", Cond.fieldLink RX0 22 "WrongWord$Acts" "at" "I", Cond.fieldLink RX0 11 "WrongWord$Acts" "ahead" "[LWrongWord$Moment;", Cond.initialized RX4] : List Cond) ++ (([Cond.methodLink RX0 25 yX4_become, Cond.instanceMethod yX4_become, Cond.selects RX4 yX4_become yX4_become] : List Cond) ++ ([] : List Cond)))
def wsX0_takeBack : List Cond := .code yX0_takeBack cX0_takeBack 2 (some .boolean) :: (wsX0_takeBack_o ++ (wsX00 ++ (wsX40 ++ (wsX4_become ++ ([] : List Cond)))))
set_option maxRecDepth 100000 in
theorem itX0_takeBack_o : ∀ w ∈ wsX0_takeBack_o, w ∈ lw_tbl := List.forall_mem_append.mpr ⟨fun w h => ch_1 w (mem_r (big := tables_1_1) _ [168, 167, 166, 4] (by decide +kernel) w h), List.forall_mem_append.mpr ⟨fun w h => ch_2 w (mem_r (big := tables_1_2) _ [170, 145, 146] (by decide +kernel) w h), fun _ h => absurd h List.not_mem_nil⟩⟩
set_option maxRecDepth 100000 in
theorem itX0_takeBack : ∀ w ∈ wsX0_takeBack, w ∈ lw_tbl := List.forall_mem_cons.mpr ⟨ch_3 _ (List.mem_of_getElem? (l := tables_1_3) (i := 17) (by decide +kernel)), List.forall_mem_append.mpr ⟨itX0_takeBack_o, List.forall_mem_append.mpr ⟨itX00, List.forall_mem_append.mpr ⟨itX40, List.forall_mem_append.mpr ⟨itX4_become, fun _ h => absurd h List.not_mem_nil⟩⟩⟩⟩⟩
set_option maxRecDepth 100000 in
theorem gdX0_takeBack_o : ∀ w ∈ wsX0_takeBack_o, goodWord w = true := gd_o (by decide +kernel)
set_option maxRecDepth 100000 in
theorem gdX0_takeBack : ∀ w ∈ wsX0_takeBack, goodWord w = true := List.forall_mem_cons.mpr ⟨by decide +kernel, List.forall_mem_append.mpr ⟨gdX0_takeBack_o, List.forall_mem_append.mpr ⟨gdX00, List.forall_mem_append.mpr ⟨gdX40, List.forall_mem_append.mpr ⟨gdX4_become, fun _ h => absurd h List.not_mem_nil⟩⟩⟩⟩⟩
def wsX1_init_o : List Cond := (([Cond.methodLink RX1 3 objectInit, Cond.instanceMethod objectInit, Cond.code objectInit ⟨#[0xb1]⟩ 1 none, Cond.arrayClass .int, Cond.fieldLink RX1 11 "WrongWord$Asks" "bodies" "[I"] : List Cond) ++ ([] : List Cond))
def wsX1_init : List Cond := .code yX1_init cX1_init 1 none :: (wsX1_init_o ++ (wsX10 ++ ([] : List Cond)))
set_option maxRecDepth 100000 in
theorem itX1_init_o : ∀ w ∈ wsX1_init_o, w ∈ lw_tbl := List.forall_mem_append.mpr ⟨fun w h => ch_1 w (mem_r (big := tables_1_1) _ [196, 19, 20, 83, 197] (by decide +kernel) w h), fun _ h => absurd h List.not_mem_nil⟩
set_option maxRecDepth 100000 in
theorem itX1_init : ∀ w ∈ wsX1_init, w ∈ lw_tbl := List.forall_mem_cons.mpr ⟨ch_1 _ (List.mem_of_getElem? (l := tables_1_1) (i := 195) (by decide +kernel)), List.forall_mem_append.mpr ⟨itX1_init_o, List.forall_mem_append.mpr ⟨itX10, fun _ h => absurd h List.not_mem_nil⟩⟩⟩
set_option maxRecDepth 100000 in
theorem gdX1_init_o : ∀ w ∈ wsX1_init_o, goodWord w = true := gd_o (by decide +kernel)
set_option maxRecDepth 100000 in
theorem gdX1_init : ∀ w ∈ wsX1_init, goodWord w = true := List.forall_mem_cons.mpr ⟨by decide +kernel, List.forall_mem_append.mpr ⟨gdX1_init_o, List.forall_mem_append.mpr ⟨gdX10, fun _ h => absurd h List.not_mem_nil⟩⟩⟩
def wsX1_isA_o : List Cond := (([Cond.fieldLink RX1 15 "WrongWord$Asks" "NEAREST_ABOVE" "[I"] : List Cond) ++ ([] : List Cond))
def wsX1_isA : List Cond := .code yX1_isA cX1_isA 4 (some .boolean) :: (wsX1_isA_o ++ ([] : List Cond))
set_option maxRecDepth 100000 in
theorem itX1_isA_o : ∀ w ∈ wsX1_isA_o, w ∈ lw_tbl := List.forall_mem_append.mpr ⟨fun w h => ch_3 w (mem_r (big := tables_1_3) _ [231] (by decide +kernel) w h), fun _ h => absurd h List.not_mem_nil⟩
set_option maxRecDepth 100000 in
theorem itX1_isA : ∀ w ∈ wsX1_isA, w ∈ lw_tbl := List.forall_mem_cons.mpr ⟨ch_3 _ (List.mem_of_getElem? (l := tables_1_3) (i := 230) (by decide +kernel)), List.forall_mem_append.mpr ⟨itX1_isA_o, fun _ h => absurd h List.not_mem_nil⟩⟩
set_option maxRecDepth 100000 in
theorem gdX1_isA_o : ∀ w ∈ wsX1_isA_o, goodWord w = true := gd_o (by decide +kernel)
set_option maxRecDepth 100000 in
theorem gdX1_isA : ∀ w ∈ wsX1_isA, goodWord w = true := List.forall_mem_cons.mpr ⟨by decide +kernel, List.forall_mem_append.mpr ⟨gdX1_isA_o, fun _ h => absurd h List.not_mem_nil⟩⟩
def wsX1_turnTo_o : List Cond := (([Cond.fieldLink RX1 18 "WrongWord$Asks" "number" "I", Cond.fieldLink RX1 22 "WrongWord$Asks" "kind" "I", Cond.fieldLink RX1 25 "WrongWord$Asks" "fee" "I", Cond.fieldLink RX1 28 "WrongWord$Asks" "took" "I", Cond.fieldLink RX1 31 "WrongWord$Asks" "begun" "I"] : List Cond) ++ ([] : List Cond))
def wsX1_turnTo : List Cond := .code yX1_turnTo cX1_turnTo 5 none :: (wsX1_turnTo_o ++ (wsX10 ++ ([] : List Cond)))
set_option maxRecDepth 100000 in
theorem itX1_turnTo_o : ∀ w ∈ wsX1_turnTo_o, w ∈ lw_tbl := List.forall_mem_append.mpr ⟨fun w h => ch_1 w (mem_r (big := tables_1_1) _ [201, 202, 203, 204, 199] (by decide +kernel) w h), fun _ h => absurd h List.not_mem_nil⟩
set_option maxRecDepth 100000 in
theorem itX1_turnTo : ∀ w ∈ wsX1_turnTo, w ∈ lw_tbl := List.forall_mem_cons.mpr ⟨ch_4 _ (List.mem_of_getElem? (l := tables_1_4) (i := 0) (by decide +kernel)), List.forall_mem_append.mpr ⟨itX1_turnTo_o, List.forall_mem_append.mpr ⟨itX10, fun _ h => absurd h List.not_mem_nil⟩⟩⟩
set_option maxRecDepth 100000 in
theorem gdX1_turnTo_o : ∀ w ∈ wsX1_turnTo_o, goodWord w = true := gd_o (by decide +kernel)
set_option maxRecDepth 100000 in
theorem gdX1_turnTo : ∀ w ∈ wsX1_turnTo, goodWord w = true := List.forall_mem_cons.mpr ⟨by decide +kernel, List.forall_mem_append.mpr ⟨gdX1_turnTo_o, List.forall_mem_append.mpr ⟨gdX10, fun _ h => absurd h List.not_mem_nil⟩⟩⟩
def wsX1_sizeBody_o : List Cond := (([Cond.fieldLink RX1 22 "WrongWord$Asks" "kind" "I"] : List Cond) ++ (([Cond.fieldLink RX1 45 "WrongWord$Asks" "SIZE_BODY" "[I"] : List Cond) ++ ([] : List Cond)))
def wsX1_sizeBody : List Cond := .code yX1_sizeBody cX1_sizeBody 1 (some .int) :: (wsX1_sizeBody_o ++ (wsX10 ++ ([] : List Cond)))
set_option maxRecDepth 100000 in
theorem itX1_sizeBody_o : ∀ w ∈ wsX1_sizeBody_o, w ∈ lw_tbl := List.forall_mem_append.mpr ⟨fun w h => ch_1 w (mem_r (big := tables_1_1) _ [202] (by decide +kernel) w h), List.forall_mem_append.mpr ⟨fun w h => ch_4 w (mem_r (big := tables_1_4) _ [9] (by decide +kernel) w h), fun _ h => absurd h List.not_mem_nil⟩⟩
set_option maxRecDepth 100000 in
theorem itX1_sizeBody : ∀ w ∈ wsX1_sizeBody, w ∈ lw_tbl := List.forall_mem_cons.mpr ⟨ch_4 _ (List.mem_of_getElem? (l := tables_1_4) (i := 8) (by decide +kernel)), List.forall_mem_append.mpr ⟨itX1_sizeBody_o, List.forall_mem_append.mpr ⟨itX10, fun _ h => absurd h List.not_mem_nil⟩⟩⟩
set_option maxRecDepth 100000 in
theorem gdX1_sizeBody_o : ∀ w ∈ wsX1_sizeBody_o, goodWord w = true := gd_o (by decide +kernel)
set_option maxRecDepth 100000 in
theorem gdX1_sizeBody : ∀ w ∈ wsX1_sizeBody, goodWord w = true := List.forall_mem_cons.mpr ⟨by decide +kernel, List.forall_mem_append.mpr ⟨gdX1_sizeBody_o, List.forall_mem_append.mpr ⟨gdX10, fun _ h => absurd h List.not_mem_nil⟩⟩⟩
def wsX1_markBody_o : List Cond := (([Cond.fieldLink RX1 22 "WrongWord$Asks" "kind" "I"] : List Cond) ++ (([Cond.fieldLink RX1 48 "WrongWord$Asks" "MARK_BODY" "[I"] : List Cond) ++ ([] : List Cond)))
def wsX1_markBody : List Cond := .code yX1_markBody cX1_markBody 1 (some .int) :: (wsX1_markBody_o ++ (wsX10 ++ ([] : List Cond)))
set_option maxRecDepth 100000 in
theorem itX1_markBody_o : ∀ w ∈ wsX1_markBody_o, w ∈ lw_tbl := List.forall_mem_append.mpr ⟨fun w h => ch_1 w (mem_r (big := tables_1_1) _ [202] (by decide +kernel) w h), List.forall_mem_append.mpr ⟨fun w h => ch_4 w (mem_r (big := tables_1_4) _ [15] (by decide +kernel) w h), fun _ h => absurd h List.not_mem_nil⟩⟩
set_option maxRecDepth 100000 in
theorem itX1_markBody : ∀ w ∈ wsX1_markBody, w ∈ lw_tbl := List.forall_mem_cons.mpr ⟨ch_4 _ (List.mem_of_getElem? (l := tables_1_4) (i := 14) (by decide +kernel)), List.forall_mem_append.mpr ⟨itX1_markBody_o, List.forall_mem_append.mpr ⟨itX10, fun _ h => absurd h List.not_mem_nil⟩⟩⟩
set_option maxRecDepth 100000 in
theorem gdX1_markBody_o : ∀ w ∈ wsX1_markBody_o, goodWord w = true := gd_o (by decide +kernel)
set_option maxRecDepth 100000 in
theorem gdX1_markBody : ∀ w ∈ wsX1_markBody, goodWord w = true := List.forall_mem_cons.mpr ⟨by decide +kernel, List.forall_mem_append.mpr ⟨gdX1_markBody_o, List.forall_mem_append.mpr ⟨gdX10, fun _ h => absurd h List.not_mem_nil⟩⟩⟩
def wsX1_leave_o : List Cond := (([Cond.fieldLink RX1 31 "WrongWord$Asks" "begun" "I", Cond.fieldLink RX1 11 "WrongWord$Asks" "bodies" "[I"] : List Cond) ++ ([] : List Cond))
def wsX1_leave : List Cond := .code yX1_leave cX1_leave 2 none :: (wsX1_leave_o ++ (wsX10 ++ ([] : List Cond)))
set_option maxRecDepth 100000 in
theorem itX1_leave_o : ∀ w ∈ wsX1_leave_o, w ∈ lw_tbl := List.forall_mem_append.mpr ⟨fun w h => ch_1 w (mem_r (big := tables_1_1) _ [199, 197] (by decide +kernel) w h), fun _ h => absurd h List.not_mem_nil⟩
set_option maxRecDepth 100000 in
theorem itX1_leave : ∀ w ∈ wsX1_leave, w ∈ lw_tbl := List.forall_mem_cons.mpr ⟨ch_4 _ (List.mem_of_getElem? (l := tables_1_4) (i := 23) (by decide +kernel)), List.forall_mem_append.mpr ⟨itX1_leave_o, List.forall_mem_append.mpr ⟨itX10, fun _ h => absurd h List.not_mem_nil⟩⟩⟩
set_option maxRecDepth 100000 in
theorem gdX1_leave_o : ∀ w ∈ wsX1_leave_o, goodWord w = true := gd_o (by decide +kernel)
set_option maxRecDepth 100000 in
theorem gdX1_leave : ∀ w ∈ wsX1_leave, goodWord w = true := List.forall_mem_cons.mpr ⟨by decide +kernel, List.forall_mem_append.mpr ⟨gdX1_leave_o, List.forall_mem_append.mpr ⟨gdX10, fun _ h => absurd h List.not_mem_nil⟩⟩⟩
def wsX1_given_o : List Cond := (([Cond.selects RX1 yX1_leave yX1_leave, Cond.selects RX1 yX1_markBody yX1_markBody, Cond.selects RX1 yX1_sizeBody yX1_sizeBody] : List Cond) ++ (([Cond.fieldLink RX1 25 "WrongWord$Asks" "fee" "I", Cond.fieldLink RX1 18 "WrongWord$Asks" "number" "I", Cond.fieldLink RX1 28 "WrongWord$Asks" "took" "I", Cond.initialized RX1, Cond.fieldLink RX1 31 "WrongWord$Asks" "begun" "I", Cond.fieldLink RX1 11 "WrongWord$Asks" "bodies" "[I", Cond.fieldLink RX1 22 "WrongWord$Asks" "kind" "I"] : List Cond) ++ (([Cond.methodLink RX1 51 yX1_leave, Cond.instanceMethod yX1_leave, Cond.methodLink RX1 41 yX1_given, Cond.static yX1_given, Cond.methodLink RX1 38 yX1_markBody, Cond.instanceMethod yX1_markBody, Cond.fieldLink RX1 48 "WrongWord$Asks" "MARK_BODY" "[I", Cond.methodLink RX1 34 yX1_sizeBody, Cond.instanceMethod yX1_sizeBody, Cond.fieldLink RX1 45 "WrongWord$Asks" "SIZE_BODY" "[I"] : List Cond) ++ ([] : List Cond))))
def wsX1_given : List Cond := .code yX1_given cX1_given 4 (some .int) :: (wsX1_given_o ++ (wsX10 ++ (wsX1_leave ++ (wsX1_markBody ++ (wsX1_sizeBody ++ ([] : List Cond))))))
set_option maxRecDepth 100000 in
theorem itX1_given_o : ∀ w ∈ wsX1_given_o, w ∈ lw_tbl := List.forall_mem_append.mpr ⟨fun w h => ch_0 w (mem_r (big := k2_sels lw_privs) _ [25, 24, 23] (by decide +kernel) w h), List.forall_mem_append.mpr ⟨fun w h => ch_1 w (mem_r (big := tables_1_1) _ [203, 201, 204, 7, 199, 197, 202] (by decide +kernel) w h), List.forall_mem_append.mpr ⟨fun w h => ch_4 w (mem_r (big := tables_1_4) _ [20, 22, 17, 18, 11, 13, 15, 5, 7, 9] (by decide +kernel) w h), fun _ h => absurd h List.not_mem_nil⟩⟩⟩
set_option maxRecDepth 100000 in
theorem itX1_given : ∀ w ∈ wsX1_given, w ∈ lw_tbl := List.forall_mem_cons.mpr ⟨ch_4 _ (List.mem_of_getElem? (l := tables_1_4) (i := 19) (by decide +kernel)), List.forall_mem_append.mpr ⟨itX1_given_o, List.forall_mem_append.mpr ⟨itX10, List.forall_mem_append.mpr ⟨itX1_leave, List.forall_mem_append.mpr ⟨itX1_markBody, List.forall_mem_append.mpr ⟨itX1_sizeBody, fun _ h => absurd h List.not_mem_nil⟩⟩⟩⟩⟩⟩
set_option maxRecDepth 100000 in
theorem gdX1_given_o : ∀ w ∈ wsX1_given_o, goodWord w = true := gd_o (by decide +kernel)
set_option maxRecDepth 100000 in
theorem gdX1_given : ∀ w ∈ wsX1_given, goodWord w = true := List.forall_mem_cons.mpr ⟨by decide +kernel, List.forall_mem_append.mpr ⟨gdX1_given_o, List.forall_mem_append.mpr ⟨gdX10, List.forall_mem_append.mpr ⟨gdX1_leave, List.forall_mem_append.mpr ⟨gdX1_markBody, List.forall_mem_append.mpr ⟨gdX1_sizeBody, fun _ h => absurd h List.not_mem_nil⟩⟩⟩⟩⟩⟩
def wsX1_answer_o : List Cond := (([Cond.selects RX1 yX1_sizeBody yX1_sizeBody, Cond.selects RX1 yX1_markBody yX1_markBody, Cond.selects RX1 yX1_leave yX1_leave] : List Cond) ++ (([Cond.initialized RX1, Cond.fieldLink RX1 22 "WrongWord$Asks" "kind" "I", Cond.fieldLink RX1 25 "WrongWord$Asks" "fee" "I", Cond.fieldLink RX1 18 "WrongWord$Asks" "number" "I", Cond.fieldLink RX1 28 "WrongWord$Asks" "took" "I", Cond.fieldLink RX1 31 "WrongWord$Asks" "begun" "I", Cond.fieldLink RX1 11 "WrongWord$Asks" "bodies" "[I"] : List Cond) ++ (([Cond.methodLink RX1 34 yX1_sizeBody, Cond.instanceMethod yX1_sizeBody, Cond.fieldLink RX1 45 "WrongWord$Asks" "SIZE_BODY" "[I", Cond.methodLink RX1 38 yX1_markBody, Cond.instanceMethod yX1_markBody, Cond.fieldLink RX1 48 "WrongWord$Asks" "MARK_BODY" "[I", Cond.methodLink RX1 41 yX1_given, Cond.static yX1_given, Cond.methodLink RX1 51 yX1_leave] : List Cond) ++ ([] : List Cond))))
def wsX1_answer : List Cond := .code yX1_answer cX1_answer 2 (some .int) :: (wsX1_answer_o ++ (wsX10 ++ (wsX1_sizeBody ++ (wsX1_markBody ++ (wsX1_given ++ ([] : List Cond))))))
set_option maxRecDepth 100000 in
theorem itX1_answer_o : ∀ w ∈ wsX1_answer_o, w ∈ lw_tbl := List.forall_mem_append.mpr ⟨fun w h => ch_0 w (mem_r (big := k2_sels lw_privs) _ [23, 24, 25] (by decide +kernel) w h), List.forall_mem_append.mpr ⟨fun w h => ch_1 w (mem_r (big := tables_1_1) _ [7, 202, 203, 201, 204, 199, 197] (by decide +kernel) w h), List.forall_mem_append.mpr ⟨fun w h => ch_4 w (mem_r (big := tables_1_4) _ [5, 7, 9, 11, 13, 15, 17, 18, 20] (by decide +kernel) w h), fun _ h => absurd h List.not_mem_nil⟩⟩⟩
set_option maxRecDepth 100000 in
theorem itX1_answer : ∀ w ∈ wsX1_answer, w ∈ lw_tbl := List.forall_mem_cons.mpr ⟨ch_4 _ (List.mem_of_getElem? (l := tables_1_4) (i := 4) (by decide +kernel)), List.forall_mem_append.mpr ⟨itX1_answer_o, List.forall_mem_append.mpr ⟨itX10, List.forall_mem_append.mpr ⟨itX1_sizeBody, List.forall_mem_append.mpr ⟨itX1_markBody, List.forall_mem_append.mpr ⟨itX1_given, fun _ h => absurd h List.not_mem_nil⟩⟩⟩⟩⟩⟩
set_option maxRecDepth 100000 in
theorem gdX1_answer_o : ∀ w ∈ wsX1_answer_o, goodWord w = true := gd_o (by decide +kernel)
set_option maxRecDepth 100000 in
theorem gdX1_answer : ∀ w ∈ wsX1_answer, goodWord w = true := List.forall_mem_cons.mpr ⟨by decide +kernel, List.forall_mem_append.mpr ⟨gdX1_answer_o, List.forall_mem_append.mpr ⟨gdX10, List.forall_mem_append.mpr ⟨gdX1_sizeBody, List.forall_mem_append.mpr ⟨gdX1_markBody, List.forall_mem_append.mpr ⟨gdX1_given, fun _ h => absurd h List.not_mem_nil⟩⟩⟩⟩⟩⟩
def wsX2_init_o : List Cond := (([Cond.methodLink RX2 3 objectInit, Cond.fieldLink RX2 9 "WrongWord$Gate" "letters" "[I", Cond.fieldLink RX2 15 "WrongWord$Gate" "kinds" "[I", Cond.fieldLink RX2 18 "WrongWord$Gate" "fees" "[I", Cond.classLink RX2 21 RX4, Cond.instantiable RX4 8, Cond.initialized RX4, Cond.fieldLink RX2 24 "WrongWord$Gate" "now" "LWrongWord$Moment;", Cond.instanceMethod yX4_init] : List Cond) ++ ([] : List Cond))
def wsX2_init : List Cond := .code yX2_init cX2_init 1 none :: (wsX2_init_o ++ (wsX20 ++ (wsX40 ++ (wsX4_init ++ ([] : List Cond)))))
set_option maxRecDepth 100000 in
theorem itX2_init_o : ∀ w ∈ wsX2_init_o, w ∈ lw_tbl := List.forall_mem_append.mpr ⟨fun w h => ch_1 w (mem_r (big := tables_1_1) _ [34, 84, 87, 91, 35, 36, 4, 94, 38] (by decide +kernel) w h), fun _ h => absurd h List.not_mem_nil⟩
set_option maxRecDepth 100000 in
theorem itX2_init : ∀ w ∈ wsX2_init, w ∈ lw_tbl := List.forall_mem_cons.mpr ⟨ch_1 _ (List.mem_of_getElem? (l := tables_1_1) (i := 33) (by decide +kernel)), List.forall_mem_append.mpr ⟨itX2_init_o, List.forall_mem_append.mpr ⟨itX20, List.forall_mem_append.mpr ⟨itX40, List.forall_mem_append.mpr ⟨itX4_init, fun _ h => absurd h List.not_mem_nil⟩⟩⟩⟩⟩
set_option maxRecDepth 100000 in
theorem gdX2_init_o : ∀ w ∈ wsX2_init_o, goodWord w = true := gd_o (by decide +kernel)
set_option maxRecDepth 100000 in
theorem gdX2_init : ∀ w ∈ wsX2_init, goodWord w = true := List.forall_mem_cons.mpr ⟨by decide +kernel, List.forall_mem_append.mpr ⟨gdX2_init_o, List.forall_mem_append.mpr ⟨gdX20, List.forall_mem_append.mpr ⟨gdX40, List.forall_mem_append.mpr ⟨gdX4_init, fun _ h => absurd h List.not_mem_nil⟩⟩⟩⟩⟩
def wsX2_become_o : List Cond := (([Cond.fieldLink RX2 9 "WrongWord$Gate" "letters" "[I", Cond.fieldLink RX2 15 "WrongWord$Gate" "kinds" "[I", Cond.fieldLink RX2 18 "WrongWord$Gate" "fees" "[I", Cond.fieldLink RX2 24 "WrongWord$Gate" "now" "LWrongWord$Moment;", Cond.fieldLink RX2 38 "WrongWord$Gate" "step" "I", Cond.fieldLink RX2 42 "WrongWord$Gate" "shrove" "I", Cond.fieldLink RX2 45 "WrongWord$Gate" "words" "I", Cond.fieldLink RX2 48 "WrongWord$Gate" "guards" "I", Cond.initialized RX4] : List Cond) ++ (([Cond.methodLink RX2 28 arraycopyName, Cond.methodLink RX2 34 yX4_become, Cond.instanceMethod yX4_become, Cond.selects RX4 yX4_become yX4_become] : List Cond) ++ ([] : List Cond)))
def wsX2_become : List Cond := .code yX2_become cX2_become 2 none :: (wsX2_become_o ++ (wsX20 ++ (wsX40 ++ (wsX4_become ++ ([] : List Cond)))))
set_option maxRecDepth 100000 in
theorem itX2_become_o : ∀ w ∈ wsX2_become_o, w ∈ lw_tbl := List.forall_mem_append.mpr ⟨fun w h => ch_1 w (mem_r (big := tables_1_1) _ [84, 87, 91, 94, 98, 101, 105, 108, 4] (by decide +kernel) w h), List.forall_mem_append.mpr ⟨fun w h => ch_2 w (mem_r (big := tables_1_2) _ [143, 144, 145, 146] (by decide +kernel) w h), fun _ h => absurd h List.not_mem_nil⟩⟩
set_option maxRecDepth 100000 in
theorem itX2_become : ∀ w ∈ wsX2_become, w ∈ lw_tbl := List.forall_mem_cons.mpr ⟨ch_2 _ (List.mem_of_getElem? (l := tables_1_2) (i := 142) (by decide +kernel)), List.forall_mem_append.mpr ⟨itX2_become_o, List.forall_mem_append.mpr ⟨itX20, List.forall_mem_append.mpr ⟨itX40, List.forall_mem_append.mpr ⟨itX4_become, fun _ h => absurd h List.not_mem_nil⟩⟩⟩⟩⟩
set_option maxRecDepth 100000 in
theorem gdX2_become_o : ∀ w ∈ wsX2_become_o, goodWord w = true := gd_o (by decide +kernel)
set_option maxRecDepth 100000 in
theorem gdX2_become : ∀ w ∈ wsX2_become, goodWord w = true := List.forall_mem_cons.mpr ⟨by decide +kernel, List.forall_mem_append.mpr ⟨gdX2_become_o, List.forall_mem_append.mpr ⟨gdX20, List.forall_mem_append.mpr ⟨gdX40, List.forall_mem_append.mpr ⟨gdX4_become, fun _ h => absurd h List.not_mem_nil⟩⟩⟩⟩⟩
def wsX7_rest_o : List Cond := ([] : List Cond)
def wsX7_rest : List Cond := .code yX7_rest cX7_rest 2 (some .int) :: (wsX7_rest_o ++ ([] : List Cond))
set_option maxRecDepth 100000 in
theorem itX7_rest_o : ∀ w ∈ wsX7_rest_o, w ∈ lw_tbl := fun _ h => absurd h List.not_mem_nil
set_option maxRecDepth 100000 in
theorem itX7_rest : ∀ w ∈ wsX7_rest, w ∈ lw_tbl := List.forall_mem_cons.mpr ⟨ch_2 _ (List.mem_of_getElem? (l := tables_1_2) (i := 188) (by decide +kernel)), List.forall_mem_append.mpr ⟨itX7_rest_o, fun _ h => absurd h List.not_mem_nil⟩⟩
set_option maxRecDepth 100000 in
theorem gdX7_rest_o : ∀ w ∈ wsX7_rest_o, goodWord w = true := gd_o (by decide +kernel)
set_option maxRecDepth 100000 in
theorem gdX7_rest : ∀ w ∈ wsX7_rest, goodWord w = true := List.forall_mem_cons.mpr ⟨by decide +kernel, List.forall_mem_append.mpr ⟨gdX7_rest_o, fun _ h => absurd h List.not_mem_nil⟩⟩
def wsX2_secretBy_o : List Cond := (([Cond.fieldLink RX2 45 "WrongWord$Gate" "words" "I", Cond.initialized RX7] : List Cond) ++ (([Cond.static yX7_rest] : List Cond) ++ ([] : List Cond)))
def wsX2_secretBy : List Cond := .code yX2_secretBy cX2_secretBy 5 (some .int) :: (wsX2_secretBy_o ++ (wsX20 ++ (wsX7_rest ++ ([] : List Cond))))
set_option maxRecDepth 100000 in
theorem itX2_secretBy_o : ∀ w ∈ wsX2_secretBy_o, w ∈ lw_tbl := List.forall_mem_append.mpr ⟨fun w h => ch_1 w (mem_r (big := tables_1_1) _ [105, 1] (by decide +kernel) w h), List.forall_mem_append.mpr ⟨fun w h => ch_2 w (mem_r (big := tables_1_2) _ [187] (by decide +kernel) w h), fun _ h => absurd h List.not_mem_nil⟩⟩
set_option maxRecDepth 100000 in
theorem itX2_secretBy : ∀ w ∈ wsX2_secretBy, w ∈ lw_tbl := List.forall_mem_cons.mpr ⟨ch_2 _ (List.mem_of_getElem? (l := tables_1_2) (i := 185) (by decide +kernel)), List.forall_mem_append.mpr ⟨itX2_secretBy_o, List.forall_mem_append.mpr ⟨itX20, List.forall_mem_append.mpr ⟨itX7_rest, fun _ h => absurd h List.not_mem_nil⟩⟩⟩⟩
set_option maxRecDepth 100000 in
theorem gdX2_secretBy_o : ∀ w ∈ wsX2_secretBy_o, goodWord w = true := gd_o (by decide +kernel)
set_option maxRecDepth 100000 in
theorem gdX2_secretBy : ∀ w ∈ wsX2_secretBy, goodWord w = true := List.forall_mem_cons.mpr ⟨by decide +kernel, List.forall_mem_append.mpr ⟨gdX2_secretBy_o, List.forall_mem_append.mpr ⟨gdX20, List.forall_mem_append.mpr ⟨gdX7_rest, fun _ h => absurd h List.not_mem_nil⟩⟩⟩⟩
def wsX2_secretIn_o : List Cond := (([Cond.fieldLink RX2 24 "WrongWord$Gate" "now" "LWrongWord$Moment;", Cond.fieldLink RX2 55 "WrongWord$Moment" "start" "I", Cond.fieldLink RX2 38 "WrongWord$Gate" "step" "I", Cond.fieldLink RX2 42 "WrongWord$Gate" "shrove" "I", Cond.fieldLink RX2 58 "WrongWord$Moment" "night" "I", Cond.initialized RX2, Cond.fieldLink RX2 45 "WrongWord$Gate" "words" "I"] : List Cond) ++ (([Cond.methodLink RX2 61 yX2_secretBy, Cond.instanceMethod yX2_secretBy, Cond.selects RX2 yX2_secretBy yX2_secretBy] : List Cond) ++ ([] : List Cond)))
def wsX2_secretIn : List Cond := .code yX2_secretIn cX2_secretIn 2 (some .int) :: (wsX2_secretIn_o ++ (wsX20 ++ (wsX40 ++ (wsX2_secretBy ++ ([] : List Cond)))))
set_option maxRecDepth 100000 in
theorem itX2_secretIn_o : ∀ w ∈ wsX2_secretIn_o, w ∈ lw_tbl := List.forall_mem_append.mpr ⟨fun w h => ch_1 w (mem_r (big := tables_1_1) _ [94, 57, 98, 101, 54, 3, 105] (by decide +kernel) w h), List.forall_mem_append.mpr ⟨fun w h => ch_2 w (mem_r (big := tables_1_2) _ [182, 183, 184] (by decide +kernel) w h), fun _ h => absurd h List.not_mem_nil⟩⟩
set_option maxRecDepth 100000 in
theorem itX2_secretIn : ∀ w ∈ wsX2_secretIn, w ∈ lw_tbl := List.forall_mem_cons.mpr ⟨ch_2 _ (List.mem_of_getElem? (l := tables_1_2) (i := 181) (by decide +kernel)), List.forall_mem_append.mpr ⟨itX2_secretIn_o, List.forall_mem_append.mpr ⟨itX20, List.forall_mem_append.mpr ⟨itX40, List.forall_mem_append.mpr ⟨itX2_secretBy, fun _ h => absurd h List.not_mem_nil⟩⟩⟩⟩⟩
set_option maxRecDepth 100000 in
theorem gdX2_secretIn_o : ∀ w ∈ wsX2_secretIn_o, goodWord w = true := gd_o (by decide +kernel)
set_option maxRecDepth 100000 in
theorem gdX2_secretIn : ∀ w ∈ wsX2_secretIn, goodWord w = true := List.forall_mem_cons.mpr ⟨by decide +kernel, List.forall_mem_append.mpr ⟨gdX2_secretIn_o, List.forall_mem_append.mpr ⟨gdX20, List.forall_mem_append.mpr ⟨gdX40, List.forall_mem_append.mpr ⟨gdX2_secretBy, fun _ h => absurd h List.not_mem_nil⟩⟩⟩⟩⟩
def wsX2_distance_o : List Cond := (([Cond.fieldLink RX2 9 "WrongWord$Gate" "letters" "[I"] : List Cond) ++ ([] : List Cond))
def wsX2_distance : List Cond := .code yX2_distance cX2_distance 5 (some .int) :: (wsX2_distance_o ++ (wsX20 ++ ([] : List Cond)))
set_option maxRecDepth 100000 in
theorem itX2_distance_o : ∀ w ∈ wsX2_distance_o, w ∈ lw_tbl := List.forall_mem_append.mpr ⟨fun w h => ch_1 w (mem_r (big := tables_1_1) _ [84] (by decide +kernel) w h), fun _ h => absurd h List.not_mem_nil⟩
set_option maxRecDepth 100000 in
theorem itX2_distance : ∀ w ∈ wsX2_distance, w ∈ lw_tbl := List.forall_mem_cons.mpr ⟨ch_2 _ (List.mem_of_getElem? (l := tables_1_2) (i := 125) (by decide +kernel)), List.forall_mem_append.mpr ⟨itX2_distance_o, List.forall_mem_append.mpr ⟨itX20, fun _ h => absurd h List.not_mem_nil⟩⟩⟩
set_option maxRecDepth 100000 in
theorem gdX2_distance_o : ∀ w ∈ wsX2_distance_o, goodWord w = true := gd_o (by decide +kernel)
set_option maxRecDepth 100000 in
theorem gdX2_distance : ∀ w ∈ wsX2_distance, goodWord w = true := List.forall_mem_cons.mpr ⟨by decide +kernel, List.forall_mem_append.mpr ⟨gdX2_distance_o, List.forall_mem_append.mpr ⟨gdX20, fun _ h => absurd h List.not_mem_nil⟩⟩⟩
def wsX2_lips_o : List Cond := (([Cond.fieldLink RX2 9 "WrongWord$Gate" "letters" "[I"] : List Cond) ++ ([] : List Cond))
def wsX2_lips : List Cond := .code yX2_lips cX2_lips 5 (some .int) :: (wsX2_lips_o ++ (wsX20 ++ ([] : List Cond)))
set_option maxRecDepth 100000 in
theorem itX2_lips_o : ∀ w ∈ wsX2_lips_o, w ∈ lw_tbl := List.forall_mem_append.mpr ⟨fun w h => ch_1 w (mem_r (big := tables_1_1) _ [84] (by decide +kernel) w h), fun _ h => absurd h List.not_mem_nil⟩
set_option maxRecDepth 100000 in
theorem itX2_lips : ∀ w ∈ wsX2_lips, w ∈ lw_tbl := List.forall_mem_cons.mpr ⟨ch_2 _ (List.mem_of_getElem? (l := tables_1_2) (i := 227) (by decide +kernel)), List.forall_mem_append.mpr ⟨itX2_lips_o, List.forall_mem_append.mpr ⟨itX20, fun _ h => absurd h List.not_mem_nil⟩⟩⟩
set_option maxRecDepth 100000 in
theorem gdX2_lips_o : ∀ w ∈ wsX2_lips_o, goodWord w = true := gd_o (by decide +kernel)
set_option maxRecDepth 100000 in
theorem gdX2_lips : ∀ w ∈ wsX2_lips, goodWord w = true := List.forall_mem_cons.mpr ⟨by decide +kernel, List.forall_mem_append.mpr ⟨gdX2_lips_o, List.forall_mem_append.mpr ⟨gdX20, fun _ h => absurd h List.not_mem_nil⟩⟩⟩
def wsX2_guardOn_o : List Cond := (([Cond.fieldLink RX2 48 "WrongWord$Gate" "guards" "I", Cond.initialized RX7] : List Cond) ++ (([Cond.static yX7_rest] : List Cond) ++ ([] : List Cond)))
def wsX2_guardOn : List Cond := .code yX2_guardOn cX2_guardOn 3 (some .int) :: (wsX2_guardOn_o ++ (wsX20 ++ (wsX7_rest ++ ([] : List Cond))))
set_option maxRecDepth 100000 in
theorem itX2_guardOn_o : ∀ w ∈ wsX2_guardOn_o, w ∈ lw_tbl := List.forall_mem_append.mpr ⟨fun w h => ch_1 w (mem_r (big := tables_1_1) _ [108, 1] (by decide +kernel) w h), List.forall_mem_append.mpr ⟨fun w h => ch_2 w (mem_r (big := tables_1_2) _ [187] (by decide +kernel) w h), fun _ h => absurd h List.not_mem_nil⟩⟩
set_option maxRecDepth 100000 in
theorem itX2_guardOn : ∀ w ∈ wsX2_guardOn, w ∈ lw_tbl := List.forall_mem_cons.mpr ⟨ch_2 _ (List.mem_of_getElem? (l := tables_1_2) (i := 204) (by decide +kernel)), List.forall_mem_append.mpr ⟨itX2_guardOn_o, List.forall_mem_append.mpr ⟨itX20, List.forall_mem_append.mpr ⟨itX7_rest, fun _ h => absurd h List.not_mem_nil⟩⟩⟩⟩
set_option maxRecDepth 100000 in
theorem gdX2_guardOn_o : ∀ w ∈ wsX2_guardOn_o, goodWord w = true := gd_o (by decide +kernel)
set_option maxRecDepth 100000 in
theorem gdX2_guardOn : ∀ w ∈ wsX2_guardOn, goodWord w = true := List.forall_mem_cons.mpr ⟨by decide +kernel, List.forall_mem_append.mpr ⟨gdX2_guardOn_o, List.forall_mem_append.mpr ⟨gdX20, List.forall_mem_append.mpr ⟨gdX7_rest, fun _ h => absurd h List.not_mem_nil⟩⟩⟩⟩
def wsX2_isThere_o : List Cond := (([Cond.fieldLink RX2 24 "WrongWord$Gate" "now" "LWrongWord$Moment;", Cond.fieldLink RX2 65 "WrongWord$Moment" "there" "I"] : List Cond) ++ ([] : List Cond))
def wsX2_isThere : List Cond := .code yX2_isThere cX2_isThere 2 (some .boolean) :: (wsX2_isThere_o ++ (wsX20 ++ (wsX40 ++ ([] : List Cond))))
set_option maxRecDepth 100000 in
theorem itX2_isThere_o : ∀ w ∈ wsX2_isThere_o, w ∈ lw_tbl := List.forall_mem_append.mpr ⟨fun w h => ch_1 w (mem_r (big := tables_1_1) _ [94, 61] (by decide +kernel) w h), fun _ h => absurd h List.not_mem_nil⟩
set_option maxRecDepth 100000 in
theorem itX2_isThere : ∀ w ∈ wsX2_isThere, w ∈ lw_tbl := List.forall_mem_cons.mpr ⟨ch_2 _ (List.mem_of_getElem? (l := tables_1_2) (i := 218) (by decide +kernel)), List.forall_mem_append.mpr ⟨itX2_isThere_o, List.forall_mem_append.mpr ⟨itX20, List.forall_mem_append.mpr ⟨itX40, fun _ h => absurd h List.not_mem_nil⟩⟩⟩⟩
set_option maxRecDepth 100000 in
theorem gdX2_isThere_o : ∀ w ∈ wsX2_isThere_o, goodWord w = true := gd_o (by decide +kernel)
set_option maxRecDepth 100000 in
theorem gdX2_isThere : ∀ w ∈ wsX2_isThere, goodWord w = true := List.forall_mem_cons.mpr ⟨by decide +kernel, List.forall_mem_append.mpr ⟨gdX2_isThere_o, List.forall_mem_append.mpr ⟨gdX20, List.forall_mem_append.mpr ⟨gdX40, fun _ h => absurd h List.not_mem_nil⟩⟩⟩⟩
def wsX2_wouldTake_o : List Cond := (([Cond.initialized RX2, Cond.fieldLink RX2 9 "WrongWord$Gate" "letters" "[I"] : List Cond) ++ (([Cond.methodLink RX2 68 yX2_distance, Cond.instanceMethod yX2_distance, Cond.selects RX2 yX2_distance yX2_distance, Cond.methodLink RX2 71 yX2_lips, Cond.instanceMethod yX2_lips, Cond.selects RX2 yX2_lips yX2_lips] : List Cond) ++ ([] : List Cond)))
def wsX2_wouldTake : List Cond := .code yX2_wouldTake cX2_wouldTake 5 (some .boolean) :: (wsX2_wouldTake_o ++ (wsX20 ++ (wsX2_distance ++ (wsX2_lips ++ ([] : List Cond)))))
set_option maxRecDepth 100000 in
theorem itX2_wouldTake_o : ∀ w ∈ wsX2_wouldTake_o, w ∈ lw_tbl := List.forall_mem_append.mpr ⟨fun w h => ch_1 w (mem_r (big := tables_1_1) _ [3, 84] (by decide +kernel) w h), List.forall_mem_append.mpr ⟨fun w h => ch_2 w (mem_r (big := tables_1_2) _ [223, 123, 124, 224, 225, 226] (by decide +kernel) w h), fun _ h => absurd h List.not_mem_nil⟩⟩
set_option maxRecDepth 100000 in
theorem itX2_wouldTake : ∀ w ∈ wsX2_wouldTake, w ∈ lw_tbl := List.forall_mem_cons.mpr ⟨ch_2 _ (List.mem_of_getElem? (l := tables_1_2) (i := 222) (by decide +kernel)), List.forall_mem_append.mpr ⟨itX2_wouldTake_o, List.forall_mem_append.mpr ⟨itX20, List.forall_mem_append.mpr ⟨itX2_distance, List.forall_mem_append.mpr ⟨itX2_lips, fun _ h => absurd h List.not_mem_nil⟩⟩⟩⟩⟩
set_option maxRecDepth 100000 in
theorem gdX2_wouldTake_o : ∀ w ∈ wsX2_wouldTake_o, goodWord w = true := gd_o (by decide +kernel)
set_option maxRecDepth 100000 in
theorem gdX2_wouldTake : ∀ w ∈ wsX2_wouldTake, goodWord w = true := List.forall_mem_cons.mpr ⟨by decide +kernel, List.forall_mem_append.mpr ⟨gdX2_wouldTake_o, List.forall_mem_append.mpr ⟨gdX20, List.forall_mem_append.mpr ⟨gdX2_distance, List.forall_mem_append.mpr ⟨gdX2_lips, fun _ h => absurd h List.not_mem_nil⟩⟩⟩⟩⟩
def wsX2_catchesIf_o : List Cond := (([Cond.fieldLink RX2 15 "WrongWord$Gate" "kinds" "[I", Cond.initialized RX2, Cond.fieldLink RX2 48 "WrongWord$Gate" "guards" "I", Cond.fieldLink RX2 24 "WrongWord$Gate" "now" "LWrongWord$Moment;", Cond.fieldLink RX2 65 "WrongWord$Moment" "there" "I", Cond.fieldLink RX2 9 "WrongWord$Gate" "letters" "[I"] : List Cond) ++ (([Cond.methodLink RX2 74 yX2_guardOn, Cond.instanceMethod yX2_guardOn, Cond.selects RX2 yX2_guardOn yX2_guardOn, Cond.methodLink RX2 77 yX2_isThere, Cond.instanceMethod yX2_isThere, Cond.selects RX2 yX2_isThere yX2_isThere, Cond.methodLink RX2 81 yX2_wouldTake, Cond.instanceMethod yX2_wouldTake, Cond.selects RX2 yX2_wouldTake yX2_wouldTake, Cond.methodLink RX2 68 yX2_distance, Cond.selects RX2 yX2_distance yX2_distance, Cond.methodLink RX2 71 yX2_lips, Cond.selects RX2 yX2_lips yX2_lips] : List Cond) ++ ([] : List Cond)))
def wsX2_catchesIf : List Cond := .code yX2_catchesIf cX2_catchesIf 6 (some .boolean) :: (wsX2_catchesIf_o ++ (wsX20 ++ (wsX40 ++ (wsX2_guardOn ++ (wsX2_isThere ++ (wsX2_wouldTake ++ ([] : List Cond)))))))
set_option maxRecDepth 100000 in
theorem itX2_catchesIf_o : ∀ w ∈ wsX2_catchesIf_o, w ∈ lw_tbl := List.forall_mem_append.mpr ⟨fun w h => ch_1 w (mem_r (big := tables_1_1) _ [87, 3, 108, 94, 61, 84] (by decide +kernel) w h), List.forall_mem_append.mpr ⟨fun w h => ch_2 w (mem_r (big := tables_1_2) _ [214, 202, 203, 215, 216, 217, 219, 220, 221, 223, 124, 224, 226] (by decide +kernel) w h), fun _ h => absurd h List.not_mem_nil⟩⟩
set_option maxRecDepth 100000 in
theorem itX2_catchesIf : ∀ w ∈ wsX2_catchesIf, w ∈ lw_tbl := List.forall_mem_cons.mpr ⟨ch_2 _ (List.mem_of_getElem? (l := tables_1_2) (i := 213) (by decide +kernel)), List.forall_mem_append.mpr ⟨itX2_catchesIf_o, List.forall_mem_append.mpr ⟨itX20, List.forall_mem_append.mpr ⟨itX40, List.forall_mem_append.mpr ⟨itX2_guardOn, List.forall_mem_append.mpr ⟨itX2_isThere, List.forall_mem_append.mpr ⟨itX2_wouldTake, fun _ h => absurd h List.not_mem_nil⟩⟩⟩⟩⟩⟩⟩
set_option maxRecDepth 100000 in
theorem gdX2_catchesIf_o : ∀ w ∈ wsX2_catchesIf_o, goodWord w = true := gd_o (by decide +kernel)
set_option maxRecDepth 100000 in
theorem gdX2_catchesIf : ∀ w ∈ wsX2_catchesIf, goodWord w = true := List.forall_mem_cons.mpr ⟨by decide +kernel, List.forall_mem_append.mpr ⟨gdX2_catchesIf_o, List.forall_mem_append.mpr ⟨gdX20, List.forall_mem_append.mpr ⟨gdX40, List.forall_mem_append.mpr ⟨gdX2_guardOn, List.forall_mem_append.mpr ⟨gdX2_isThere, List.forall_mem_append.mpr ⟨gdX2_wouldTake, fun _ h => absurd h List.not_mem_nil⟩⟩⟩⟩⟩⟩⟩
def wsX2_catches_o : List Cond := (([Cond.fieldLink RX2 24 "WrongWord$Gate" "now" "LWrongWord$Moment;", Cond.fieldLink RX2 58 "WrongWord$Moment" "night" "I", Cond.initialized RX2, Cond.fieldLink RX2 55 "WrongWord$Moment" "start" "I", Cond.fieldLink RX2 38 "WrongWord$Gate" "step" "I", Cond.fieldLink RX2 42 "WrongWord$Gate" "shrove" "I", Cond.fieldLink RX2 45 "WrongWord$Gate" "words" "I", Cond.fieldLink RX2 15 "WrongWord$Gate" "kinds" "[I", Cond.fieldLink RX2 48 "WrongWord$Gate" "guards" "I", Cond.fieldLink RX2 65 "WrongWord$Moment" "there" "I", Cond.fieldLink RX2 9 "WrongWord$Gate" "letters" "[I"] : List Cond) ++ (([Cond.methodLink RX2 85 yX2_secretIn, Cond.instanceMethod yX2_secretIn, Cond.selects RX2 yX2_secretIn yX2_secretIn, Cond.methodLink RX2 61 yX2_secretBy, Cond.selects RX2 yX2_secretBy yX2_secretBy, Cond.methodLink RX2 89 yX2_catchesIf, Cond.instanceMethod yX2_catchesIf, Cond.selects RX2 yX2_catchesIf yX2_catchesIf, Cond.methodLink RX2 74 yX2_guardOn, Cond.selects RX2 yX2_guardOn yX2_guardOn, Cond.methodLink RX2 77 yX2_isThere, Cond.selects RX2 yX2_isThere yX2_isThere, Cond.methodLink RX2 81 yX2_wouldTake, Cond.selects RX2 yX2_wouldTake yX2_wouldTake, Cond.methodLink RX2 68 yX2_distance, Cond.selects RX2 yX2_distance yX2_distance, Cond.methodLink RX2 71 yX2_lips, Cond.selects RX2 yX2_lips yX2_lips] : List Cond) ++ ([] : List Cond)))
def wsX2_catches : List Cond := .code yX2_catches cX2_catches 4 (some .boolean) :: (wsX2_catches_o ++ (wsX20 ++ (wsX40 ++ (wsX2_secretIn ++ (wsX2_catchesIf ++ ([] : List Cond))))))
set_option maxRecDepth 100000 in
theorem itX2_catches_o : ∀ w ∈ wsX2_catches_o, w ∈ lw_tbl := List.forall_mem_append.mpr ⟨fun w h => ch_1 w (mem_r (big := tables_1_1) _ [94, 54, 3, 57, 98, 101, 105, 87, 108, 61, 84] (by decide +kernel) w h), List.forall_mem_append.mpr ⟨fun w h => ch_2 w (mem_r (big := tables_1_2) _ [209, 179, 180, 182, 184, 210, 211, 212, 214, 203, 215, 217, 219, 221, 223, 124, 224, 226] (by decide +kernel) w h), fun _ h => absurd h List.not_mem_nil⟩⟩
set_option maxRecDepth 100000 in
theorem itX2_catches : ∀ w ∈ wsX2_catches, w ∈ lw_tbl := List.forall_mem_cons.mpr ⟨ch_2 _ (List.mem_of_getElem? (l := tables_1_2) (i := 208) (by decide +kernel)), List.forall_mem_append.mpr ⟨itX2_catches_o, List.forall_mem_append.mpr ⟨itX20, List.forall_mem_append.mpr ⟨itX40, List.forall_mem_append.mpr ⟨itX2_secretIn, List.forall_mem_append.mpr ⟨itX2_catchesIf, fun _ h => absurd h List.not_mem_nil⟩⟩⟩⟩⟩⟩
set_option maxRecDepth 100000 in
theorem gdX2_catches_o : ∀ w ∈ wsX2_catches_o, goodWord w = true := gd_o (by decide +kernel)
set_option maxRecDepth 100000 in
theorem gdX2_catches : ∀ w ∈ wsX2_catches, goodWord w = true := List.forall_mem_cons.mpr ⟨by decide +kernel, List.forall_mem_append.mpr ⟨gdX2_catches_o, List.forall_mem_append.mpr ⟨gdX20, List.forall_mem_append.mpr ⟨gdX40, List.forall_mem_append.mpr ⟨gdX2_secretIn, List.forall_mem_append.mpr ⟨gdX2_catchesIf, fun _ h => absurd h List.not_mem_nil⟩⟩⟩⟩⟩⟩
def wsX7_bit_o : List Cond := ([] : List Cond)
def wsX7_bit : List Cond := .code yX7_bit cX7_bit 1 (some .int) :: (wsX7_bit_o ++ ([] : List Cond))
set_option maxRecDepth 100000 in
theorem itX7_bit_o : ∀ w ∈ wsX7_bit_o, w ∈ lw_tbl := fun _ h => absurd h List.not_mem_nil
set_option maxRecDepth 100000 in
theorem itX7_bit : ∀ w ∈ wsX7_bit, w ∈ lw_tbl := List.forall_mem_cons.mpr ⟨ch_2 _ (List.mem_of_getElem? (l := tables_1_2) (i := 236) (by decide +kernel)), List.forall_mem_append.mpr ⟨itX7_bit_o, fun _ h => absurd h List.not_mem_nil⟩⟩
set_option maxRecDepth 100000 in
theorem gdX7_bit_o : ∀ w ∈ wsX7_bit_o, goodWord w = true := gd_o (by decide +kernel)
set_option maxRecDepth 100000 in
theorem gdX7_bit : ∀ w ∈ wsX7_bit, goodWord w = true := List.forall_mem_cons.mpr ⟨by decide +kernel, List.forall_mem_append.mpr ⟨gdX7_bit_o, fun _ h => absurd h List.not_mem_nil⟩⟩
def wsX2_hoursOf_o : List Cond := (([Cond.fieldLink RX2 24 "WrongWord$Gate" "now" "LWrongWord$Moment;", Cond.fieldLink RX2 58 "WrongWord$Moment" "night" "I", Cond.initialized RX2, Cond.fieldLink RX2 48 "WrongWord$Gate" "guards" "I"] : List Cond) ++ (([Cond.methodLink RX2 74 yX2_guardOn, Cond.instanceMethod yX2_guardOn, Cond.selects RX2 yX2_guardOn yX2_guardOn, Cond.static yX7_bit] : List Cond) ++ ([] : List Cond)))
def wsX2_hoursOf : List Cond := .code yX2_hoursOf cX2_hoursOf 4 (some .int) :: (wsX2_hoursOf_o ++ (wsX20 ++ (wsX40 ++ (wsX2_guardOn ++ (wsX7_bit ++ ([] : List Cond))))))
set_option maxRecDepth 100000 in
theorem itX2_hoursOf_o : ∀ w ∈ wsX2_hoursOf_o, w ∈ lw_tbl := List.forall_mem_append.mpr ⟨fun w h => ch_1 w (mem_r (big := tables_1_1) _ [94, 54, 3, 108] (by decide +kernel) w h), List.forall_mem_append.mpr ⟨fun w h => ch_2 w (mem_r (big := tables_1_2) _ [214, 202, 203, 235] (by decide +kernel) w h), fun _ h => absurd h List.not_mem_nil⟩⟩
set_option maxRecDepth 100000 in
theorem itX2_hoursOf : ∀ w ∈ wsX2_hoursOf, w ∈ lw_tbl := List.forall_mem_cons.mpr ⟨ch_3 _ (List.mem_of_getElem? (l := tables_1_3) (i := 35) (by decide +kernel)), List.forall_mem_append.mpr ⟨itX2_hoursOf_o, List.forall_mem_append.mpr ⟨itX20, List.forall_mem_append.mpr ⟨itX40, List.forall_mem_append.mpr ⟨itX2_guardOn, List.forall_mem_append.mpr ⟨itX7_bit, fun _ h => absurd h List.not_mem_nil⟩⟩⟩⟩⟩⟩
set_option maxRecDepth 100000 in
theorem gdX2_hoursOf_o : ∀ w ∈ wsX2_hoursOf_o, goodWord w = true := gd_o (by decide +kernel)
set_option maxRecDepth 100000 in
theorem gdX2_hoursOf : ∀ w ∈ wsX2_hoursOf, goodWord w = true := List.forall_mem_cons.mpr ⟨by decide +kernel, List.forall_mem_append.mpr ⟨gdX2_hoursOf_o, List.forall_mem_append.mpr ⟨gdX20, List.forall_mem_append.mpr ⟨gdX40, List.forall_mem_append.mpr ⟨gdX2_guardOn, List.forall_mem_append.mpr ⟨gdX7_bit, fun _ h => absurd h List.not_mem_nil⟩⟩⟩⟩⟩⟩
def wsX2_wordsIn_o : List Cond := (([Cond.fieldLink RX2 45 "WrongWord$Gate" "words" "I", Cond.initialized RX2, Cond.fieldLink RX2 24 "WrongWord$Gate" "now" "LWrongWord$Moment;", Cond.fieldLink RX2 58 "WrongWord$Moment" "night" "I", Cond.fieldLink RX2 55 "WrongWord$Moment" "start" "I", Cond.fieldLink RX2 38 "WrongWord$Gate" "step" "I", Cond.fieldLink RX2 42 "WrongWord$Gate" "shrove" "I", Cond.fieldLink RX2 15 "WrongWord$Gate" "kinds" "[I", Cond.fieldLink RX2 48 "WrongWord$Gate" "guards" "I", Cond.fieldLink RX2 65 "WrongWord$Moment" "there" "I", Cond.fieldLink RX2 9 "WrongWord$Gate" "letters" "[I"] : List Cond) ++ (([Cond.instanceMethod yX2_catches, Cond.selects RX2 yX2_catches yX2_catches, Cond.methodLink RX2 85 yX2_secretIn, Cond.selects RX2 yX2_secretIn yX2_secretIn, Cond.methodLink RX2 61 yX2_secretBy, Cond.selects RX2 yX2_secretBy yX2_secretBy, Cond.methodLink RX2 89 yX2_catchesIf, Cond.selects RX2 yX2_catchesIf yX2_catchesIf, Cond.methodLink RX2 74 yX2_guardOn, Cond.selects RX2 yX2_guardOn yX2_guardOn, Cond.methodLink RX2 77 yX2_isThere, Cond.selects RX2 yX2_isThere yX2_isThere, Cond.methodLink RX2 81 yX2_wouldTake, Cond.selects RX2 yX2_wouldTake yX2_wouldTake, Cond.methodLink RX2 68 yX2_distance, Cond.selects RX2 yX2_distance yX2_distance, Cond.methodLink RX2 71 yX2_lips, Cond.selects RX2 yX2_lips yX2_lips, Cond.static yX7_bit] : List Cond) ++ (([Cond.methodLink RX2 96 yX2_catches] : List Cond) ++ ([] : List Cond))))
def wsX2_wordsIn : List Cond := .code yX2_wordsIn cX2_wordsIn 5 (some .int) :: (wsX2_wordsIn_o ++ (wsX20 ++ (wsX40 ++ (wsX2_catches ++ (wsX7_bit ++ ([] : List Cond))))))
set_option maxRecDepth 100000 in
theorem itX2_wordsIn_o : ∀ w ∈ wsX2_wordsIn_o, w ∈ lw_tbl := List.forall_mem_append.mpr ⟨fun w h => ch_1 w (mem_r (big := tables_1_1) _ [105, 3, 94, 54, 57, 98, 101, 87, 108, 61, 84] (by decide +kernel) w h), List.forall_mem_append.mpr ⟨fun w h => ch_2 w (mem_r (big := tables_1_2) _ [206, 207, 209, 180, 182, 184, 210, 212, 214, 203, 215, 217, 219, 221, 223, 124, 224, 226, 235] (by decide +kernel) w h), List.forall_mem_append.mpr ⟨fun w h => ch_3 w (mem_r (big := tables_1_3) _ [61] (by decide +kernel) w h), fun _ h => absurd h List.not_mem_nil⟩⟩⟩
set_option maxRecDepth 100000 in
theorem itX2_wordsIn : ∀ w ∈ wsX2_wordsIn, w ∈ lw_tbl := List.forall_mem_cons.mpr ⟨ch_3 _ (List.mem_of_getElem? (l := tables_1_3) (i := 60) (by decide +kernel)), List.forall_mem_append.mpr ⟨itX2_wordsIn_o, List.forall_mem_append.mpr ⟨itX20, List.forall_mem_append.mpr ⟨itX40, List.forall_mem_append.mpr ⟨itX2_catches, List.forall_mem_append.mpr ⟨itX7_bit, fun _ h => absurd h List.not_mem_nil⟩⟩⟩⟩⟩⟩
set_option maxRecDepth 100000 in
theorem gdX2_wordsIn_o : ∀ w ∈ wsX2_wordsIn_o, goodWord w = true := gd_o (by decide +kernel)
set_option maxRecDepth 100000 in
theorem gdX2_wordsIn : ∀ w ∈ wsX2_wordsIn, goodWord w = true := List.forall_mem_cons.mpr ⟨by decide +kernel, List.forall_mem_append.mpr ⟨gdX2_wordsIn_o, List.forall_mem_append.mpr ⟨gdX20, List.forall_mem_append.mpr ⟨gdX40, List.forall_mem_append.mpr ⟨gdX2_catches, List.forall_mem_append.mpr ⟨gdX7_bit, fun _ h => absurd h List.not_mem_nil⟩⟩⟩⟩⟩⟩
def wsX2_hoursOpen_o : List Cond := (([Cond.initialized RX2, Cond.fieldLink RX2 45 "WrongWord$Gate" "words" "I", Cond.fieldLink RX2 24 "WrongWord$Gate" "now" "LWrongWord$Moment;", Cond.fieldLink RX2 58 "WrongWord$Moment" "night" "I", Cond.fieldLink RX2 55 "WrongWord$Moment" "start" "I", Cond.fieldLink RX2 38 "WrongWord$Gate" "step" "I", Cond.fieldLink RX2 42 "WrongWord$Gate" "shrove" "I", Cond.fieldLink RX2 15 "WrongWord$Gate" "kinds" "[I", Cond.fieldLink RX2 48 "WrongWord$Gate" "guards" "I", Cond.fieldLink RX2 65 "WrongWord$Moment" "there" "I", Cond.fieldLink RX2 9 "WrongWord$Gate" "letters" "[I"] : List Cond) ++ (([Cond.selects RX2 yX2_catches yX2_catches, Cond.methodLink RX2 85 yX2_secretIn, Cond.selects RX2 yX2_secretIn yX2_secretIn, Cond.methodLink RX2 61 yX2_secretBy, Cond.selects RX2 yX2_secretBy yX2_secretBy, Cond.methodLink RX2 89 yX2_catchesIf, Cond.selects RX2 yX2_catchesIf yX2_catchesIf, Cond.methodLink RX2 74 yX2_guardOn, Cond.selects RX2 yX2_guardOn yX2_guardOn, Cond.methodLink RX2 77 yX2_isThere, Cond.selects RX2 yX2_isThere yX2_isThere, Cond.methodLink RX2 81 yX2_wouldTake, Cond.selects RX2 yX2_wouldTake yX2_wouldTake, Cond.methodLink RX2 68 yX2_distance, Cond.selects RX2 yX2_distance yX2_distance, Cond.methodLink RX2 71 yX2_lips, Cond.selects RX2 yX2_lips yX2_lips, Cond.static yX7_bit] : List Cond) ++ (([Cond.methodLink RX2 100 yX2_wordsIn, Cond.instanceMethod yX2_wordsIn, Cond.selects RX2 yX2_wordsIn yX2_wordsIn, Cond.methodLink RX2 96 yX2_catches] : List Cond) ++ ([] : List Cond))))
def wsX2_hoursOpen : List Cond := .code yX2_hoursOpen cX2_hoursOpen 5 (some .int) :: (wsX2_hoursOpen_o ++ (wsX20 ++ (wsX40 ++ (wsX2_wordsIn ++ (wsX7_bit ++ ([] : List Cond))))))
set_option maxRecDepth 100000 in
theorem itX2_hoursOpen_o : ∀ w ∈ wsX2_hoursOpen_o, w ∈ lw_tbl := List.forall_mem_append.mpr ⟨fun w h => ch_1 w (mem_r (big := tables_1_1) _ [3, 105, 94, 54, 57, 98, 101, 87, 108, 61, 84] (by decide +kernel) w h), List.forall_mem_append.mpr ⟨fun w h => ch_2 w (mem_r (big := tables_1_2) _ [207, 209, 180, 182, 184, 210, 212, 214, 203, 215, 217, 219, 221, 223, 124, 224, 226, 235] (by decide +kernel) w h), List.forall_mem_append.mpr ⟨fun w h => ch_3 w (mem_r (big := tables_1_3) _ [74, 58, 59, 61] (by decide +kernel) w h), fun _ h => absurd h List.not_mem_nil⟩⟩⟩
set_option maxRecDepth 100000 in
theorem itX2_hoursOpen : ∀ w ∈ wsX2_hoursOpen, w ∈ lw_tbl := List.forall_mem_cons.mpr ⟨ch_3 _ (List.mem_of_getElem? (l := tables_1_3) (i := 73) (by decide +kernel)), List.forall_mem_append.mpr ⟨itX2_hoursOpen_o, List.forall_mem_append.mpr ⟨itX20, List.forall_mem_append.mpr ⟨itX40, List.forall_mem_append.mpr ⟨itX2_wordsIn, List.forall_mem_append.mpr ⟨itX7_bit, fun _ h => absurd h List.not_mem_nil⟩⟩⟩⟩⟩⟩
set_option maxRecDepth 100000 in
theorem gdX2_hoursOpen_o : ∀ w ∈ wsX2_hoursOpen_o, goodWord w = true := gd_o (by decide +kernel)
set_option maxRecDepth 100000 in
theorem gdX2_hoursOpen : ∀ w ∈ wsX2_hoursOpen, goodWord w = true := List.forall_mem_cons.mpr ⟨by decide +kernel, List.forall_mem_append.mpr ⟨gdX2_hoursOpen_o, List.forall_mem_append.mpr ⟨gdX20, List.forall_mem_append.mpr ⟨gdX40, List.forall_mem_append.mpr ⟨gdX2_wordsIn, List.forall_mem_append.mpr ⟨gdX7_bit, fun _ h => absurd h List.not_mem_nil⟩⟩⟩⟩⟩⟩
def wsX2_nightsUntil_o : List Cond := (([Cond.initialized RX2, Cond.fieldLink RX2 24 "WrongWord$Gate" "now" "LWrongWord$Moment;", Cond.fieldLink RX2 55 "WrongWord$Moment" "start" "I", Cond.fieldLink RX2 38 "WrongWord$Gate" "step" "I", Cond.fieldLink RX2 42 "WrongWord$Gate" "shrove" "I", Cond.fieldLink RX2 58 "WrongWord$Moment" "night" "I", Cond.fieldLink RX2 45 "WrongWord$Gate" "words" "I"] : List Cond) ++ (([Cond.methodLink RX2 85 yX2_secretIn, Cond.instanceMethod yX2_secretIn, Cond.selects RX2 yX2_secretIn yX2_secretIn, Cond.methodLink RX2 61 yX2_secretBy, Cond.selects RX2 yX2_secretBy yX2_secretBy] : List Cond) ++ (([Cond.constant RX2 103 (-1000000)] : List Cond) ++ ([] : List Cond))))
def wsX2_nightsUntil : List Cond := .code yX2_nightsUntil cX2_nightsUntil 3 (some .int) :: (wsX2_nightsUntil_o ++ (wsX20 ++ (wsX40 ++ (wsX2_secretIn ++ ([] : List Cond)))))
set_option maxRecDepth 100000 in
theorem itX2_nightsUntil_o : ∀ w ∈ wsX2_nightsUntil_o, w ∈ lw_tbl := List.forall_mem_append.mpr ⟨fun w h => ch_1 w (mem_r (big := tables_1_1) _ [3, 94, 57, 98, 101, 54, 105] (by decide +kernel) w h), List.forall_mem_append.mpr ⟨fun w h => ch_2 w (mem_r (big := tables_1_2) _ [209, 179, 180, 182, 184] (by decide +kernel) w h), List.forall_mem_append.mpr ⟨fun w h => ch_3 w (mem_r (big := tables_1_3) _ [83] (by decide +kernel) w h), fun _ h => absurd h List.not_mem_nil⟩⟩⟩
set_option maxRecDepth 100000 in
theorem itX2_nightsUntil : ∀ w ∈ wsX2_nightsUntil, w ∈ lw_tbl := List.forall_mem_cons.mpr ⟨ch_3 _ (List.mem_of_getElem? (l := tables_1_3) (i := 82) (by decide +kernel)), List.forall_mem_append.mpr ⟨itX2_nightsUntil_o, List.forall_mem_append.mpr ⟨itX20, List.forall_mem_append.mpr ⟨itX40, List.forall_mem_append.mpr ⟨itX2_secretIn, fun _ h => absurd h List.not_mem_nil⟩⟩⟩⟩⟩
set_option maxRecDepth 100000 in
theorem gdX2_nightsUntil_o : ∀ w ∈ wsX2_nightsUntil_o, goodWord w = true := gd_o (by decide +kernel)
set_option maxRecDepth 100000 in
theorem gdX2_nightsUntil : ∀ w ∈ wsX2_nightsUntil, goodWord w = true := List.forall_mem_cons.mpr ⟨by decide +kernel, List.forall_mem_append.mpr ⟨gdX2_nightsUntil_o, List.forall_mem_append.mpr ⟨gdX20, List.forall_mem_append.mpr ⟨gdX40, List.forall_mem_append.mpr ⟨gdX2_secretIn, fun _ h => absurd h List.not_mem_nil⟩⟩⟩⟩⟩
def wsX2_hourIn_o : List Cond := (([Cond.initialized RX2, Cond.fieldLink RX2 24 "WrongWord$Gate" "now" "LWrongWord$Moment;", Cond.fieldLink RX2 58 "WrongWord$Moment" "night" "I", Cond.fieldLink RX2 55 "WrongWord$Moment" "start" "I", Cond.fieldLink RX2 38 "WrongWord$Gate" "step" "I", Cond.fieldLink RX2 42 "WrongWord$Gate" "shrove" "I", Cond.fieldLink RX2 45 "WrongWord$Gate" "words" "I", Cond.fieldLink RX2 15 "WrongWord$Gate" "kinds" "[I", Cond.fieldLink RX2 48 "WrongWord$Gate" "guards" "I", Cond.fieldLink RX2 65 "WrongWord$Moment" "there" "I", Cond.fieldLink RX2 9 "WrongWord$Gate" "letters" "[I"] : List Cond) ++ (([Cond.instanceMethod yX2_catches, Cond.selects RX2 yX2_catches yX2_catches, Cond.methodLink RX2 85 yX2_secretIn, Cond.selects RX2 yX2_secretIn yX2_secretIn, Cond.methodLink RX2 61 yX2_secretBy, Cond.selects RX2 yX2_secretBy yX2_secretBy, Cond.methodLink RX2 89 yX2_catchesIf, Cond.selects RX2 yX2_catchesIf yX2_catchesIf, Cond.methodLink RX2 74 yX2_guardOn, Cond.selects RX2 yX2_guardOn yX2_guardOn, Cond.methodLink RX2 77 yX2_isThere, Cond.selects RX2 yX2_isThere yX2_isThere, Cond.methodLink RX2 81 yX2_wouldTake, Cond.selects RX2 yX2_wouldTake yX2_wouldTake, Cond.methodLink RX2 68 yX2_distance, Cond.selects RX2 yX2_distance yX2_distance, Cond.methodLink RX2 71 yX2_lips, Cond.selects RX2 yX2_lips yX2_lips] : List Cond) ++ (([Cond.constant RX2 103 (-1000000), Cond.methodLink RX2 96 yX2_catches] : List Cond) ++ ([] : List Cond))))
def wsX2_hourIn : List Cond := .code yX2_hourIn cX2_hourIn 4 (some .int) :: (wsX2_hourIn_o ++ (wsX20 ++ (wsX40 ++ (wsX2_catches ++ ([] : List Cond)))))
set_option maxRecDepth 100000 in
theorem itX2_hourIn_o : ∀ w ∈ wsX2_hourIn_o, w ∈ lw_tbl := List.forall_mem_append.mpr ⟨fun w h => ch_1 w (mem_r (big := tables_1_1) _ [3, 94, 54, 57, 98, 101, 105, 87, 108, 61, 84] (by decide +kernel) w h), List.forall_mem_append.mpr ⟨fun w h => ch_2 w (mem_r (big := tables_1_2) _ [206, 207, 209, 180, 182, 184, 210, 212, 214, 203, 215, 217, 219, 221, 223, 124, 224, 226] (by decide +kernel) w h), List.forall_mem_append.mpr ⟨fun w h => ch_3 w (mem_r (big := tables_1_3) _ [83, 61] (by decide +kernel) w h), fun _ h => absurd h List.not_mem_nil⟩⟩⟩
set_option maxRecDepth 100000 in
theorem itX2_hourIn : ∀ w ∈ wsX2_hourIn, w ∈ lw_tbl := List.forall_mem_cons.mpr ⟨ch_3 _ (List.mem_of_getElem? (l := tables_1_3) (i := 145) (by decide +kernel)), List.forall_mem_append.mpr ⟨itX2_hourIn_o, List.forall_mem_append.mpr ⟨itX20, List.forall_mem_append.mpr ⟨itX40, List.forall_mem_append.mpr ⟨itX2_catches, fun _ h => absurd h List.not_mem_nil⟩⟩⟩⟩⟩
set_option maxRecDepth 100000 in
theorem gdX2_hourIn_o : ∀ w ∈ wsX2_hourIn_o, goodWord w = true := gd_o (by decide +kernel)
set_option maxRecDepth 100000 in
theorem gdX2_hourIn : ∀ w ∈ wsX2_hourIn, goodWord w = true := List.forall_mem_cons.mpr ⟨by decide +kernel, List.forall_mem_append.mpr ⟨gdX2_hourIn_o, List.forall_mem_append.mpr ⟨gdX20, List.forall_mem_append.mpr ⟨gdX40, List.forall_mem_append.mpr ⟨gdX2_catches, fun _ h => absurd h List.not_mem_nil⟩⟩⟩⟩⟩
def wsX2_guardsAgainst_o : List Cond := (([Cond.fieldLink RX2 24 "WrongWord$Gate" "now" "LWrongWord$Moment;", Cond.fieldLink RX2 58 "WrongWord$Moment" "night" "I", Cond.initialized RX2, Cond.fieldLink RX2 45 "WrongWord$Gate" "words" "I", Cond.fieldLink RX2 55 "WrongWord$Moment" "start" "I", Cond.fieldLink RX2 38 "WrongWord$Gate" "step" "I", Cond.fieldLink RX2 42 "WrongWord$Gate" "shrove" "I", Cond.fieldLink RX2 15 "WrongWord$Gate" "kinds" "[I", Cond.fieldLink RX2 48 "WrongWord$Gate" "guards" "I", Cond.fieldLink RX2 65 "WrongWord$Moment" "there" "I", Cond.fieldLink RX2 9 "WrongWord$Gate" "letters" "[I"] : List Cond) ++ (([Cond.selects RX2 yX2_catches yX2_catches, Cond.methodLink RX2 85 yX2_secretIn, Cond.selects RX2 yX2_secretIn yX2_secretIn, Cond.methodLink RX2 61 yX2_secretBy, Cond.selects RX2 yX2_secretBy yX2_secretBy, Cond.methodLink RX2 89 yX2_catchesIf, Cond.selects RX2 yX2_catchesIf yX2_catchesIf, Cond.methodLink RX2 74 yX2_guardOn, Cond.instanceMethod yX2_guardOn, Cond.selects RX2 yX2_guardOn yX2_guardOn, Cond.methodLink RX2 77 yX2_isThere, Cond.selects RX2 yX2_isThere yX2_isThere, Cond.methodLink RX2 81 yX2_wouldTake, Cond.selects RX2 yX2_wouldTake yX2_wouldTake, Cond.methodLink RX2 68 yX2_distance, Cond.selects RX2 yX2_distance yX2_distance, Cond.methodLink RX2 71 yX2_lips, Cond.selects RX2 yX2_lips yX2_lips] : List Cond) ++ (([Cond.methodLink RX2 100 yX2_wordsIn, Cond.instanceMethod yX2_wordsIn, Cond.selects RX2 yX2_wordsIn yX2_wordsIn, Cond.methodLink RX2 96 yX2_catches] : List Cond) ++ ([] : List Cond))))
def wsX2_guardsAgainst : List Cond := .code yX2_guardsAgainst cX2_guardsAgainst 5 (some .int) :: (wsX2_guardsAgainst_o ++ (wsX20 ++ (wsX40 ++ (wsX2_wordsIn ++ (wsX2_guardOn ++ ([] : List Cond))))))
set_option maxRecDepth 100000 in
theorem itX2_guardsAgainst_o : ∀ w ∈ wsX2_guardsAgainst_o, w ∈ lw_tbl := List.forall_mem_append.mpr ⟨fun w h => ch_1 w (mem_r (big := tables_1_1) _ [94, 54, 3, 105, 57, 98, 101, 87, 108, 61, 84] (by decide +kernel) w h), List.forall_mem_append.mpr ⟨fun w h => ch_2 w (mem_r (big := tables_1_2) _ [207, 209, 180, 182, 184, 210, 212, 214, 202, 203, 215, 217, 219, 221, 223, 124, 224, 226] (by decide +kernel) w h), List.forall_mem_append.mpr ⟨fun w h => ch_3 w (mem_r (big := tables_1_3) _ [74, 58, 59, 61] (by decide +kernel) w h), fun _ h => absurd h List.not_mem_nil⟩⟩⟩
set_option maxRecDepth 100000 in
theorem itX2_guardsAgainst : ∀ w ∈ wsX2_guardsAgainst, w ∈ lw_tbl := List.forall_mem_cons.mpr ⟨ch_3 _ (List.mem_of_getElem? (l := tables_1_3) (i := 153) (by decide +kernel)), List.forall_mem_append.mpr ⟨itX2_guardsAgainst_o, List.forall_mem_append.mpr ⟨itX20, List.forall_mem_append.mpr ⟨itX40, List.forall_mem_append.mpr ⟨itX2_wordsIn, List.forall_mem_append.mpr ⟨itX2_guardOn, fun _ h => absurd h List.not_mem_nil⟩⟩⟩⟩⟩⟩
set_option maxRecDepth 100000 in
theorem gdX2_guardsAgainst_o : ∀ w ∈ wsX2_guardsAgainst_o, goodWord w = true := gd_o (by decide +kernel)
set_option maxRecDepth 100000 in
theorem gdX2_guardsAgainst : ∀ w ∈ wsX2_guardsAgainst, goodWord w = true := List.forall_mem_cons.mpr ⟨by decide +kernel, List.forall_mem_append.mpr ⟨gdX2_guardsAgainst_o, List.forall_mem_append.mpr ⟨gdX20, List.forall_mem_append.mpr ⟨gdX40, List.forall_mem_append.mpr ⟨gdX2_wordsIn, List.forall_mem_append.mpr ⟨gdX2_guardOn, fun _ h => absurd h List.not_mem_nil⟩⟩⟩⟩⟩⟩
def wsX2_feeOf_o : List Cond := (([Cond.fieldLink RX2 48 "WrongWord$Gate" "guards" "I", Cond.fieldLink RX2 18 "WrongWord$Gate" "fees" "[I"] : List Cond) ++ ([] : List Cond))
def wsX2_feeOf : List Cond := .code yX2_feeOf cX2_feeOf 4 (some .int) :: (wsX2_feeOf_o ++ (wsX20 ++ ([] : List Cond)))
set_option maxRecDepth 100000 in
theorem itX2_feeOf_o : ∀ w ∈ wsX2_feeOf_o, w ∈ lw_tbl := List.forall_mem_append.mpr ⟨fun w h => ch_1 w (mem_r (big := tables_1_1) _ [108, 91] (by decide +kernel) w h), fun _ h => absurd h List.not_mem_nil⟩
set_option maxRecDepth 100000 in
theorem itX2_feeOf : ∀ w ∈ wsX2_feeOf, w ∈ lw_tbl := List.forall_mem_cons.mpr ⟨ch_3 _ (List.mem_of_getElem? (l := tables_1_3) (i := 157) (by decide +kernel)), List.forall_mem_append.mpr ⟨itX2_feeOf_o, List.forall_mem_append.mpr ⟨itX20, fun _ h => absurd h List.not_mem_nil⟩⟩⟩
set_option maxRecDepth 100000 in
theorem gdX2_feeOf_o : ∀ w ∈ wsX2_feeOf_o, goodWord w = true := gd_o (by decide +kernel)
set_option maxRecDepth 100000 in
theorem gdX2_feeOf : ∀ w ∈ wsX2_feeOf, goodWord w = true := List.forall_mem_cons.mpr ⟨by decide +kernel, List.forall_mem_append.mpr ⟨gdX2_feeOf_o, List.forall_mem_append.mpr ⟨gdX20, fun _ h => absurd h List.not_mem_nil⟩⟩⟩
def wsX2_nearestTo_o : List Cond := (([Cond.fieldLink RX2 45 "WrongWord$Gate" "words" "I", Cond.initialized RX2, Cond.fieldLink RX2 9 "WrongWord$Gate" "letters" "[I"] : List Cond) ++ (([Cond.methodLink RX2 68 yX2_distance, Cond.instanceMethod yX2_distance, Cond.selects RX2 yX2_distance yX2_distance] : List Cond) ++ (([Cond.constant RX2 103 (-1000000)] : List Cond) ++ ([] : List Cond))))
def wsX2_nearestTo : List Cond := .code yX2_nearestTo cX2_nearestTo 5 (some .int) :: (wsX2_nearestTo_o ++ (wsX20 ++ (wsX2_distance ++ ([] : List Cond))))
set_option maxRecDepth 100000 in
theorem itX2_nearestTo_o : ∀ w ∈ wsX2_nearestTo_o, w ∈ lw_tbl := List.forall_mem_append.mpr ⟨fun w h => ch_1 w (mem_r (big := tables_1_1) _ [105, 3, 84] (by decide +kernel) w h), List.forall_mem_append.mpr ⟨fun w h => ch_2 w (mem_r (big := tables_1_2) _ [223, 123, 124] (by decide +kernel) w h), List.forall_mem_append.mpr ⟨fun w h => ch_3 w (mem_r (big := tables_1_3) _ [83] (by decide +kernel) w h), fun _ h => absurd h List.not_mem_nil⟩⟩⟩
set_option maxRecDepth 100000 in
theorem itX2_nearestTo : ∀ w ∈ wsX2_nearestTo, w ∈ lw_tbl := List.forall_mem_cons.mpr ⟨ch_3 _ (List.mem_of_getElem? (l := tables_1_3) (i := 165) (by decide +kernel)), List.forall_mem_append.mpr ⟨itX2_nearestTo_o, List.forall_mem_append.mpr ⟨itX20, List.forall_mem_append.mpr ⟨itX2_distance, fun _ h => absurd h List.not_mem_nil⟩⟩⟩⟩
set_option maxRecDepth 100000 in
theorem gdX2_nearestTo_o : ∀ w ∈ wsX2_nearestTo_o, goodWord w = true := gd_o (by decide +kernel)
set_option maxRecDepth 100000 in
theorem gdX2_nearestTo : ∀ w ∈ wsX2_nearestTo, goodWord w = true := List.forall_mem_cons.mpr ⟨by decide +kernel, List.forall_mem_append.mpr ⟨gdX2_nearestTo_o, List.forall_mem_append.mpr ⟨gdX20, List.forall_mem_append.mpr ⟨gdX2_distance, fun _ h => absurd h List.not_mem_nil⟩⟩⟩⟩
def wsX3_init_o : List Cond := (([Cond.methodLink RX3 3 objectInit, Cond.instanceMethod objectInit, Cond.code objectInit ⟨#[0xb1]⟩ 1 none, Cond.arrayClass .int, Cond.fieldLink RX3 9 "WrongWord$Guesses" "catching" "[I", Cond.fieldLink RX3 15 "WrongWord$Guesses" "menFor" "[I"] : List Cond) ++ ([] : List Cond))
def wsX3_init : List Cond := .code yX3_init cX3_init 1 none :: (wsX3_init_o ++ (wsX30 ++ ([] : List Cond)))
set_option maxRecDepth 100000 in
theorem itX3_init_o : ∀ w ∈ wsX3_init_o, w ∈ lw_tbl := List.forall_mem_append.mpr ⟨fun w h => ch_1 w (mem_r (big := tables_1_1) _ [183, 19, 20, 83, 184, 185] (by decide +kernel) w h), fun _ h => absurd h List.not_mem_nil⟩
set_option maxRecDepth 100000 in
theorem itX3_init : ∀ w ∈ wsX3_init, w ∈ lw_tbl := List.forall_mem_cons.mpr ⟨ch_1 _ (List.mem_of_getElem? (l := tables_1_1) (i := 182) (by decide +kernel)), List.forall_mem_append.mpr ⟨itX3_init_o, List.forall_mem_append.mpr ⟨itX30, fun _ h => absurd h List.not_mem_nil⟩⟩⟩
set_option maxRecDepth 100000 in
theorem gdX3_init_o : ∀ w ∈ wsX3_init_o, goodWord w = true := gd_o (by decide +kernel)
set_option maxRecDepth 100000 in
theorem gdX3_init : ∀ w ∈ wsX3_init, goodWord w = true := List.forall_mem_cons.mpr ⟨by decide +kernel, List.forall_mem_append.mpr ⟨gdX3_init_o, List.forall_mem_append.mpr ⟨gdX30, fun _ h => absurd h List.not_mem_nil⟩⟩⟩
def wsX3_agreesWithTries_o : List Cond := (([Cond.fieldLink RX3 32 "WrongWord$Gate" "now" "LWrongWord$Moment;", Cond.fieldLink RX3 36 "WrongWord$Moment" "tries" "I", Cond.fieldLink RX3 41 "WrongWord$Moment" "triedGuard" "[I", Cond.fieldLink RX3 44 "WrongWord$Gate" "guards" "I", Cond.fieldLink RX3 47 "WrongWord$Gate" "kinds" "[I", Cond.fieldLink RX3 50 "WrongWord$Moment" "triedWord" "[I", Cond.fieldLink RX3 53 "WrongWord$Moment" "night" "I", Cond.fieldLink RX3 60 "WrongWord$Moment" "triedTaken" "[I", Cond.initialized RX7] : List Cond) ++ (([Cond.instanceMethod yX2_wouldTake, Cond.selects RX2 yX2_wouldTake yX2_wouldTake, Cond.static yX7_bit] : List Cond) ++ (([Cond.methodLink RX3 56 yX2_wouldTake] : List Cond) ++ ([] : List Cond))))
def wsX3_agreesWithTries : List Cond := .code yX3_agreesWithTries cX3_agreesWithTries 6 (some .boolean) :: (wsX3_agreesWithTries_o ++ (wsX20 ++ (wsX40 ++ (wsX2_wouldTake ++ (wsX7_bit ++ ([] : List Cond))))))
set_option maxRecDepth 100000 in
theorem itX3_agreesWithTries_o : ∀ w ∈ wsX3_agreesWithTries_o, w ∈ lw_tbl := List.forall_mem_append.mpr ⟨fun w h => ch_1 w (mem_r (big := tables_1_1) _ [95, 64, 47, 110, 88, 44, 53, 50, 1] (by decide +kernel) w h), List.forall_mem_append.mpr ⟨fun w h => ch_2 w (mem_r (big := tables_1_2) _ [220, 221, 235] (by decide +kernel) w h), List.forall_mem_append.mpr ⟨fun w h => ch_3 w (mem_r (big := tables_1_3) _ [94] (by decide +kernel) w h), fun _ h => absurd h List.not_mem_nil⟩⟩⟩
set_option maxRecDepth 100000 in
theorem itX3_agreesWithTries : ∀ w ∈ wsX3_agreesWithTries, w ∈ lw_tbl := List.forall_mem_cons.mpr ⟨ch_3 _ (List.mem_of_getElem? (l := tables_1_3) (i := 93) (by decide +kernel)), List.forall_mem_append.mpr ⟨itX3_agreesWithTries_o, List.forall_mem_append.mpr ⟨itX20, List.forall_mem_append.mpr ⟨itX40, List.forall_mem_append.mpr ⟨itX2_wouldTake, List.forall_mem_append.mpr ⟨itX7_bit, fun _ h => absurd h List.not_mem_nil⟩⟩⟩⟩⟩⟩
set_option maxRecDepth 100000 in
theorem gdX3_agreesWithTries_o : ∀ w ∈ wsX3_agreesWithTries_o, goodWord w = true := gd_o (by decide +kernel)
set_option maxRecDepth 100000 in
theorem gdX3_agreesWithTries : ∀ w ∈ wsX3_agreesWithTries, goodWord w = true := List.forall_mem_cons.mpr ⟨by decide +kernel, List.forall_mem_append.mpr ⟨gdX3_agreesWithTries_o, List.forall_mem_append.mpr ⟨gdX20, List.forall_mem_append.mpr ⟨gdX40, List.forall_mem_append.mpr ⟨gdX2_wouldTake, List.forall_mem_append.mpr ⟨gdX7_bit, fun _ h => absurd h List.not_mem_nil⟩⟩⟩⟩⟩⟩
def wsX3_agreeing_o : List Cond := (([Cond.fieldLink RX3 18 "WrongWord$Gate" "words" "I", Cond.initialized RX3, Cond.fieldLink RX3 32 "WrongWord$Gate" "now" "LWrongWord$Moment;", Cond.fieldLink RX3 36 "WrongWord$Moment" "tries" "I", Cond.fieldLink RX3 41 "WrongWord$Moment" "triedGuard" "[I", Cond.fieldLink RX3 44 "WrongWord$Gate" "guards" "I", Cond.fieldLink RX3 47 "WrongWord$Gate" "kinds" "[I", Cond.fieldLink RX3 50 "WrongWord$Moment" "triedWord" "[I", Cond.fieldLink RX3 53 "WrongWord$Moment" "night" "I", Cond.fieldLink RX3 60 "WrongWord$Moment" "triedTaken" "[I"] : List Cond) ++ (([Cond.static yX7_bit] : List Cond) ++ (([Cond.methodLink RX3 24 yX3_agreesWithTries, Cond.static yX3_agreesWithTries, Cond.methodLink RX3 56 yX2_wouldTake] : List Cond) ++ ([] : List Cond))))
def wsX3_agreeing : List Cond := .code yX3_agreeing cX3_agreeing 3 (some .int) :: (wsX3_agreeing_o ++ (wsX20 ++ (wsX40 ++ (wsX3_agreesWithTries ++ (wsX7_bit ++ ([] : List Cond))))))
set_option maxRecDepth 100000 in
theorem itX3_agreeing_o : ∀ w ∈ wsX3_agreeing_o, w ∈ lw_tbl := List.forall_mem_append.mpr ⟨fun w h => ch_1 w (mem_r (big := tables_1_1) _ [104, 6, 95, 64, 47, 110, 88, 44, 53, 50] (by decide +kernel) w h), List.forall_mem_append.mpr ⟨fun w h => ch_2 w (mem_r (big := tables_1_2) _ [235] (by decide +kernel) w h), List.forall_mem_append.mpr ⟨fun w h => ch_3 w (mem_r (big := tables_1_3) _ [91, 92, 94] (by decide +kernel) w h), fun _ h => absurd h List.not_mem_nil⟩⟩⟩
set_option maxRecDepth 100000 in
theorem itX3_agreeing : ∀ w ∈ wsX3_agreeing, w ∈ lw_tbl := List.forall_mem_cons.mpr ⟨ch_3 _ (List.mem_of_getElem? (l := tables_1_3) (i := 90) (by decide +kernel)), List.forall_mem_append.mpr ⟨itX3_agreeing_o, List.forall_mem_append.mpr ⟨itX20, List.forall_mem_append.mpr ⟨itX40, List.forall_mem_append.mpr ⟨itX3_agreesWithTries, List.forall_mem_append.mpr ⟨itX7_bit, fun _ h => absurd h List.not_mem_nil⟩⟩⟩⟩⟩⟩
set_option maxRecDepth 100000 in
theorem gdX3_agreeing_o : ∀ w ∈ wsX3_agreeing_o, goodWord w = true := gd_o (by decide +kernel)
set_option maxRecDepth 100000 in
theorem gdX3_agreeing : ∀ w ∈ wsX3_agreeing, goodWord w = true := List.forall_mem_cons.mpr ⟨by decide +kernel, List.forall_mem_append.mpr ⟨gdX3_agreeing_o, List.forall_mem_append.mpr ⟨gdX20, List.forall_mem_append.mpr ⟨gdX40, List.forall_mem_append.mpr ⟨gdX3_agreesWithTries, List.forall_mem_append.mpr ⟨gdX7_bit, fun _ h => absurd h List.not_mem_nil⟩⟩⟩⟩⟩⟩
def wsX3_secretsCatching_o : List Cond := (([Cond.fieldLink RX3 18 "WrongWord$Gate" "words" "I", Cond.fieldLink RX3 32 "WrongWord$Gate" "now" "LWrongWord$Moment;", Cond.fieldLink RX3 53 "WrongWord$Moment" "night" "I"] : List Cond) ++ (([Cond.instanceMethod yX2_catchesIf, Cond.selects RX2 yX2_catchesIf yX2_catchesIf, Cond.static yX7_bit] : List Cond) ++ (([Cond.methodLink RX3 63 yX2_catchesIf] : List Cond) ++ ([] : List Cond))))
def wsX3_secretsCatching : List Cond := .code yX3_secretsCatching cX3_secretsCatching 5 (some .int) :: (wsX3_secretsCatching_o ++ (wsX20 ++ (wsX40 ++ (wsX2_catchesIf ++ (wsX7_bit ++ ([] : List Cond))))))
set_option maxRecDepth 100000 in
theorem itX3_secretsCatching_o : ∀ w ∈ wsX3_secretsCatching_o, w ∈ lw_tbl := List.forall_mem_append.mpr ⟨fun w h => ch_1 w (mem_r (big := tables_1_1) _ [104, 95, 53] (by decide +kernel) w h), List.forall_mem_append.mpr ⟨fun w h => ch_2 w (mem_r (big := tables_1_2) _ [211, 212, 235] (by decide +kernel) w h), List.forall_mem_append.mpr ⟨fun w h => ch_3 w (mem_r (big := tables_1_3) _ [109] (by decide +kernel) w h), fun _ h => absurd h List.not_mem_nil⟩⟩⟩
set_option maxRecDepth 100000 in
theorem itX3_secretsCatching : ∀ w ∈ wsX3_secretsCatching, w ∈ lw_tbl := List.forall_mem_cons.mpr ⟨ch_3 _ (List.mem_of_getElem? (l := tables_1_3) (i := 108) (by decide +kernel)), List.forall_mem_append.mpr ⟨itX3_secretsCatching_o, List.forall_mem_append.mpr ⟨itX20, List.forall_mem_append.mpr ⟨itX40, List.forall_mem_append.mpr ⟨itX2_catchesIf, List.forall_mem_append.mpr ⟨itX7_bit, fun _ h => absurd h List.not_mem_nil⟩⟩⟩⟩⟩⟩
set_option maxRecDepth 100000 in
theorem gdX3_secretsCatching_o : ∀ w ∈ wsX3_secretsCatching_o, goodWord w = true := gd_o (by decide +kernel)
set_option maxRecDepth 100000 in
theorem gdX3_secretsCatching : ∀ w ∈ wsX3_secretsCatching, goodWord w = true := List.forall_mem_cons.mpr ⟨by decide +kernel, List.forall_mem_append.mpr ⟨gdX3_secretsCatching_o, List.forall_mem_append.mpr ⟨gdX20, List.forall_mem_append.mpr ⟨gdX40, List.forall_mem_append.mpr ⟨gdX2_catchesIf, List.forall_mem_append.mpr ⟨gdX7_bit, fun _ h => absurd h List.not_mem_nil⟩⟩⟩⟩⟩⟩
def wsJ6_bitCount_0f7a4_o : List Cond := (([Cond.constant RJ6 265 (1431655765), Cond.constant RJ6 266 (858993459), Cond.constant RJ6 267 (252645135)] : List Cond) ++ ([] : List Cond))
def wsJ6_bitCount_0f7a4 : List Cond := .code yJ6_bitCount_0f7a4 cJ6_bitCount_0f7a4 1 (some .int) :: (wsJ6_bitCount_0f7a4_o ++ ([] : List Cond))
set_option maxRecDepth 100000 in
theorem itJ6_bitCount_0f7a4_o : ∀ w ∈ wsJ6_bitCount_0f7a4_o, w ∈ lw_tbl := List.forall_mem_append.mpr ⟨fun w h => ch_3 w (mem_r (big := tables_1_3) _ [113, 114, 115] (by decide +kernel) w h), fun _ h => absurd h List.not_mem_nil⟩
set_option maxRecDepth 100000 in
theorem itJ6_bitCount_0f7a4 : ∀ w ∈ wsJ6_bitCount_0f7a4, w ∈ lw_tbl := List.forall_mem_cons.mpr ⟨ch_3 _ (List.mem_of_getElem? (l := tables_1_3) (i := 112) (by decide +kernel)), List.forall_mem_append.mpr ⟨itJ6_bitCount_0f7a4_o, fun _ h => absurd h List.not_mem_nil⟩⟩
set_option maxRecDepth 100000 in
theorem gdJ6_bitCount_0f7a4_o : ∀ w ∈ wsJ6_bitCount_0f7a4_o, goodWord w = true := gd_o (by decide +kernel)
set_option maxRecDepth 100000 in
theorem gdJ6_bitCount_0f7a4 : ∀ w ∈ wsJ6_bitCount_0f7a4, goodWord w = true := List.forall_mem_cons.mpr ⟨by decide +kernel, List.forall_mem_append.mpr ⟨gdJ6_bitCount_0f7a4_o, fun _ h => absurd h List.not_mem_nil⟩⟩
def wsX3_leftAtWorst_o : List Cond := (([Cond.initialized "java/lang/Math", Cond.initialized RX3, Cond.fieldLink RX3 18 "WrongWord$Gate" "words" "I", Cond.fieldLink RX3 32 "WrongWord$Gate" "now" "LWrongWord$Moment;", Cond.fieldLink RX3 53 "WrongWord$Moment" "night" "I", Cond.initialized RJ6] : List Cond) ++ (([Cond.methodLink RX3 76 Lib.Math.max.name, Cond.static Lib.Math.max.name, Cond.code Lib.Math.max.name Lib.Math.max.code 2 (some .int), Cond.methodLink RX3 66 yX3_secretsCatching, Cond.static yX3_secretsCatching, Cond.methodLink RX3 63 yX2_catchesIf, Cond.methodLink RX3 70 yJ6_bitCount_0f7a4, Cond.static yJ6_bitCount_0f7a4] : List Cond) ++ ([] : List Cond)))
def wsX3_leftAtWorst : List Cond := .code yX3_leftAtWorst cX3_leftAtWorst 4 (some .int) :: (wsX3_leftAtWorst_o ++ (wsX20 ++ (wsX40 ++ (wsX3_secretsCatching ++ (wsJ6_bitCount_0f7a4 ++ ([] : List Cond))))))
set_option maxRecDepth 100000 in
theorem itX3_leftAtWorst_o : ∀ w ∈ wsX3_leftAtWorst_o, w ∈ lw_tbl := List.forall_mem_append.mpr ⟨fun w h => ch_1 w (mem_r (big := tables_1_1) _ [11, 6, 104, 95, 53, 12] (by decide +kernel) w h), List.forall_mem_append.mpr ⟨fun w h => ch_3 w (mem_r (big := tables_1_3) _ [116, 117, 118, 106, 107, 109, 110, 111] (by decide +kernel) w h), fun _ h => absurd h List.not_mem_nil⟩⟩
set_option maxRecDepth 100000 in
theorem itX3_leftAtWorst : ∀ w ∈ wsX3_leftAtWorst, w ∈ lw_tbl := List.forall_mem_cons.mpr ⟨ch_3 _ (List.mem_of_getElem? (l := tables_1_3) (i := 105) (by decide +kernel)), List.forall_mem_append.mpr ⟨itX3_leftAtWorst_o, List.forall_mem_append.mpr ⟨itX20, List.forall_mem_append.mpr ⟨itX40, List.forall_mem_append.mpr ⟨itX3_secretsCatching, List.forall_mem_append.mpr ⟨itJ6_bitCount_0f7a4, fun _ h => absurd h List.not_mem_nil⟩⟩⟩⟩⟩⟩
set_option maxRecDepth 100000 in
theorem gdX3_leftAtWorst_o : ∀ w ∈ wsX3_leftAtWorst_o, goodWord w = true := gd_o (by decide +kernel)
set_option maxRecDepth 100000 in
theorem gdX3_leftAtWorst : ∀ w ∈ wsX3_leftAtWorst, goodWord w = true := List.forall_mem_cons.mpr ⟨by decide +kernel, List.forall_mem_append.mpr ⟨gdX3_leftAtWorst_o, List.forall_mem_append.mpr ⟨gdX20, List.forall_mem_append.mpr ⟨gdX40, List.forall_mem_append.mpr ⟨gdX3_secretsCatching, List.forall_mem_append.mpr ⟨gdJ6_bitCount_0f7a4, fun _ h => absurd h List.not_mem_nil⟩⟩⟩⟩⟩⟩
def wsX3_bestTry_o : List Cond := (([Cond.fieldLink RX3 18 "WrongWord$Gate" "words" "I", Cond.initialized RX3, Cond.fieldLink RX3 32 "WrongWord$Gate" "now" "LWrongWord$Moment;", Cond.fieldLink RX3 53 "WrongWord$Moment" "night" "I"] : List Cond) ++ (([Cond.methodLink RX3 82 yX3_leftAtWorst, Cond.static yX3_leftAtWorst, Cond.methodLink RX3 76 Lib.Math.max.name, Cond.methodLink RX3 66 yX3_secretsCatching, Cond.methodLink RX3 63 yX2_catchesIf, Cond.methodLink RX3 70 yJ6_bitCount_0f7a4] : List Cond) ++ ([] : List Cond)))
def wsX3_bestTry : List Cond := .code yX3_bestTry cX3_bestTry 6 (some .int) :: (wsX3_bestTry_o ++ (wsX20 ++ (wsX40 ++ (wsX3_leftAtWorst ++ ([] : List Cond)))))
set_option maxRecDepth 100000 in
theorem itX3_bestTry_o : ∀ w ∈ wsX3_bestTry_o, w ∈ lw_tbl := List.forall_mem_append.mpr ⟨fun w h => ch_1 w (mem_r (big := tables_1_1) _ [104, 6, 95, 53] (by decide +kernel) w h), List.forall_mem_append.mpr ⟨fun w h => ch_3 w (mem_r (big := tables_1_3) _ [103, 104, 116, 106, 109, 110] (by decide +kernel) w h), fun _ h => absurd h List.not_mem_nil⟩⟩
set_option maxRecDepth 100000 in
theorem itX3_bestTry : ∀ w ∈ wsX3_bestTry, w ∈ lw_tbl := List.forall_mem_cons.mpr ⟨ch_3 _ (List.mem_of_getElem? (l := tables_1_3) (i := 102) (by decide +kernel)), List.forall_mem_append.mpr ⟨itX3_bestTry_o, List.forall_mem_append.mpr ⟨itX20, List.forall_mem_append.mpr ⟨itX40, List.forall_mem_append.mpr ⟨itX3_leftAtWorst, fun _ h => absurd h List.not_mem_nil⟩⟩⟩⟩⟩
set_option maxRecDepth 100000 in
theorem gdX3_bestTry_o : ∀ w ∈ wsX3_bestTry_o, goodWord w = true := gd_o (by decide +kernel)
set_option maxRecDepth 100000 in
theorem gdX3_bestTry : ∀ w ∈ wsX3_bestTry, goodWord w = true := List.forall_mem_cons.mpr ⟨by decide +kernel, List.forall_mem_append.mpr ⟨gdX3_bestTry_o, List.forall_mem_append.mpr ⟨gdX20, List.forall_mem_append.mpr ⟨gdX40, List.forall_mem_append.mpr ⟨gdX3_leftAtWorst, fun _ h => absurd h List.not_mem_nil⟩⟩⟩⟩⟩
def wsX3_menToSplit_o : List Cond := (([Cond.fieldLink RX3 9 "WrongWord$Guesses" "catching" "[I", Cond.fieldLink RX3 15 "WrongWord$Guesses" "menFor" "[I", Cond.initialized "java/lang/Math"] : List Cond) ++ (([Cond.static Lib.Math.min.name, Cond.code Lib.Math.min.name Lib.Math.min.code 2 (some .int)] : List Cond) ++ (([Cond.methodLink RX3 76 Lib.Math.max.name, Cond.static Lib.Math.max.name, Cond.code Lib.Math.max.name Lib.Math.max.code 2 (some .int), Cond.methodLink RX3 89 Lib.Math.min.name] : List Cond) ++ ([] : List Cond))))
def wsX3_menToSplit : List Cond := .code yX3_menToSplit cX3_menToSplit 6 (some .int) :: (wsX3_menToSplit_o ++ (wsX30 ++ ([] : List Cond)))
set_option maxRecDepth 100000 in
theorem itX3_menToSplit_o : ∀ w ∈ wsX3_menToSplit_o, w ∈ lw_tbl := List.forall_mem_append.mpr ⟨fun w h => ch_1 w (mem_r (big := tables_1_1) _ [184, 185, 11] (by decide +kernel) w h), List.forall_mem_append.mpr ⟨fun w h => ch_2 w (mem_r (big := tables_1_2) _ [172, 173] (by decide +kernel) w h), List.forall_mem_append.mpr ⟨fun w h => ch_3 w (mem_r (big := tables_1_3) _ [116, 117, 118, 132] (by decide +kernel) w h), fun _ h => absurd h List.not_mem_nil⟩⟩⟩
set_option maxRecDepth 100000 in
theorem itX3_menToSplit : ∀ w ∈ wsX3_menToSplit, w ∈ lw_tbl := List.forall_mem_cons.mpr ⟨ch_3 _ (List.mem_of_getElem? (l := tables_1_3) (i := 131) (by decide +kernel)), List.forall_mem_append.mpr ⟨itX3_menToSplit_o, List.forall_mem_append.mpr ⟨itX30, fun _ h => absurd h List.not_mem_nil⟩⟩⟩
set_option maxRecDepth 100000 in
theorem gdX3_menToSplit_o : ∀ w ∈ wsX3_menToSplit_o, goodWord w = true := gd_o (by decide +kernel)
set_option maxRecDepth 100000 in
theorem gdX3_menToSplit : ∀ w ∈ wsX3_menToSplit, goodWord w = true := List.forall_mem_cons.mpr ⟨by decide +kernel, List.forall_mem_append.mpr ⟨gdX3_menToSplit_o, List.forall_mem_append.mpr ⟨gdX30, fun _ h => absurd h List.not_mem_nil⟩⟩⟩
def wsX3_fewestMen_o : List Cond := (([Cond.selects RX3 yX3_menToSplit yX3_menToSplit] : List Cond) ++ (([Cond.fieldLink RX3 18 "WrongWord$Gate" "words" "I", Cond.fieldLink RX3 9 "WrongWord$Guesses" "catching" "[I", Cond.fieldLink RX3 15 "WrongWord$Guesses" "menFor" "[I", Cond.initialized RX3, Cond.fieldLink RX3 32 "WrongWord$Gate" "now" "LWrongWord$Moment;", Cond.fieldLink RX3 53 "WrongWord$Moment" "night" "I", Cond.initialized RJ6] : List Cond) ++ (([Cond.constant RX3 88 (-1000000), Cond.methodLink RX3 66 yX3_secretsCatching, Cond.static yX3_secretsCatching, Cond.methodLink RX3 63 yX2_catchesIf, Cond.methodLink RX3 70 yJ6_bitCount_0f7a4, Cond.static yJ6_bitCount_0f7a4, Cond.methodLink RX3 85 yX3_menToSplit, Cond.instanceMethod yX3_menToSplit, Cond.methodLink RX3 76 Lib.Math.max.name, Cond.methodLink RX3 89 Lib.Math.min.name] : List Cond) ++ ([] : List Cond))))
def wsX3_fewestMen : List Cond := .code yX3_fewestMen cX3_fewestMen 5 (some .int) :: (wsX3_fewestMen_o ++ (wsX20 ++ (wsX30 ++ (wsX40 ++ (wsX3_secretsCatching ++ (wsJ6_bitCount_0f7a4 ++ (wsX3_menToSplit ++ ([] : List Cond))))))))
set_option maxRecDepth 100000 in
theorem itX3_fewestMen_o : ∀ w ∈ wsX3_fewestMen_o, w ∈ lw_tbl := List.forall_mem_append.mpr ⟨fun w h => ch_0 w (mem_r (big := k2_sels lw_privs) _ [17] (by decide +kernel) w h), List.forall_mem_append.mpr ⟨fun w h => ch_1 w (mem_r (big := tables_1_1) _ [104, 184, 185, 6, 95, 53, 12] (by decide +kernel) w h), List.forall_mem_append.mpr ⟨fun w h => ch_3 w (mem_r (big := tables_1_3) _ [133, 106, 107, 109, 110, 111, 128, 130, 116, 132] (by decide +kernel) w h), fun _ h => absurd h List.not_mem_nil⟩⟩⟩
set_option maxRecDepth 100000 in
theorem itX3_fewestMen : ∀ w ∈ wsX3_fewestMen, w ∈ lw_tbl := List.forall_mem_cons.mpr ⟨ch_3 _ (List.mem_of_getElem? (l := tables_1_3) (i := 127) (by decide +kernel)), List.forall_mem_append.mpr ⟨itX3_fewestMen_o, List.forall_mem_append.mpr ⟨itX20, List.forall_mem_append.mpr ⟨itX30, List.forall_mem_append.mpr ⟨itX40, List.forall_mem_append.mpr ⟨itX3_secretsCatching, List.forall_mem_append.mpr ⟨itJ6_bitCount_0f7a4, List.forall_mem_append.mpr ⟨itX3_menToSplit, fun _ h => absurd h List.not_mem_nil⟩⟩⟩⟩⟩⟩⟩⟩
set_option maxRecDepth 100000 in
theorem gdX3_fewestMen_o : ∀ w ∈ wsX3_fewestMen_o, goodWord w = true := gd_o (by decide +kernel)
set_option maxRecDepth 100000 in
theorem gdX3_fewestMen : ∀ w ∈ wsX3_fewestMen, goodWord w = true := List.forall_mem_cons.mpr ⟨by decide +kernel, List.forall_mem_append.mpr ⟨gdX3_fewestMen_o, List.forall_mem_append.mpr ⟨gdX20, List.forall_mem_append.mpr ⟨gdX30, List.forall_mem_append.mpr ⟨gdX40, List.forall_mem_append.mpr ⟨gdX3_secretsCatching, List.forall_mem_append.mpr ⟨gdJ6_bitCount_0f7a4, List.forall_mem_append.mpr ⟨gdX3_menToSplit, fun _ h => absurd h List.not_mem_nil⟩⟩⟩⟩⟩⟩⟩⟩
def wsX4_begin_o : List Cond := (([Cond.fieldLink RX4 24 "WrongWord$Moment" "night" "I", Cond.fieldLink RX4 28 "WrongWord$Moment" "there" "I", Cond.fieldLink RX4 31 "WrongWord$Moment" "tries" "I", Cond.fieldLink RX4 9 "WrongWord$Moment" "took" "[I"] : List Cond) ++ ([] : List Cond))
def wsX4_begin : List Cond := .code yX4_begin cX4_begin 3 none :: (wsX4_begin_o ++ (wsX40 ++ ([] : List Cond)))
set_option maxRecDepth 100000 in
theorem itX4_begin_o : ∀ w ∈ wsX4_begin_o, w ∈ lw_tbl := List.forall_mem_append.mpr ⟨fun w h => ch_1 w (mem_r (big := tables_1_1) _ [52, 60, 63, 41] (by decide +kernel) w h), fun _ h => absurd h List.not_mem_nil⟩
set_option maxRecDepth 100000 in
theorem itX4_begin : ∀ w ∈ wsX4_begin, w ∈ lw_tbl := List.forall_mem_cons.mpr ⟨ch_2 _ (List.mem_of_getElem? (l := tables_1_2) (i := 137) (by decide +kernel)), List.forall_mem_append.mpr ⟨itX4_begin_o, List.forall_mem_append.mpr ⟨itX40, fun _ h => absurd h List.not_mem_nil⟩⟩⟩
set_option maxRecDepth 100000 in
theorem gdX4_begin_o : ∀ w ∈ wsX4_begin_o, goodWord w = true := gd_o (by decide +kernel)
set_option maxRecDepth 100000 in
theorem gdX4_begin : ∀ w ∈ wsX4_begin, goodWord w = true := List.forall_mem_cons.mpr ⟨by decide +kernel, List.forall_mem_append.mpr ⟨gdX4_begin_o, List.forall_mem_append.mpr ⟨gdX40, fun _ h => absurd h List.not_mem_nil⟩⟩⟩
def wsX4_goBy_o : List Cond := (([Cond.fieldLink RX4 24 "WrongWord$Moment" "night" "I", Cond.fieldLink RX4 31 "WrongWord$Moment" "tries" "I"] : List Cond) ++ ([] : List Cond))
def wsX4_goBy : List Cond := .code yX4_goBy cX4_goBy 1 none :: (wsX4_goBy_o ++ (wsX40 ++ ([] : List Cond)))
set_option maxRecDepth 100000 in
theorem itX4_goBy_o : ∀ w ∈ wsX4_goBy_o, w ∈ lw_tbl := List.forall_mem_append.mpr ⟨fun w h => ch_1 w (mem_r (big := tables_1_1) _ [52, 63] (by decide +kernel) w h), fun _ h => absurd h List.not_mem_nil⟩
set_option maxRecDepth 100000 in
theorem itX4_goBy : ∀ w ∈ wsX4_goBy, w ∈ lw_tbl := List.forall_mem_cons.mpr ⟨ch_2 _ (List.mem_of_getElem? (l := tables_1_2) (i := 177) (by decide +kernel)), List.forall_mem_append.mpr ⟨itX4_goBy_o, List.forall_mem_append.mpr ⟨itX40, fun _ h => absurd h List.not_mem_nil⟩⟩⟩
set_option maxRecDepth 100000 in
theorem gdX4_goBy_o : ∀ w ∈ wsX4_goBy_o, goodWord w = true := gd_o (by decide +kernel)
set_option maxRecDepth 100000 in
theorem gdX4_goBy : ∀ w ∈ wsX4_goBy, goodWord w = true := List.forall_mem_cons.mpr ⟨by decide +kernel, List.forall_mem_append.mpr ⟨gdX4_goBy_o, List.forall_mem_append.mpr ⟨gdX40, fun _ h => absurd h List.not_mem_nil⟩⟩⟩
def wsX4_addTry_o : List Cond := (([Cond.fieldLink RX4 31 "WrongWord$Moment" "tries" "I", Cond.fieldLink RX4 15 "WrongWord$Moment" "triedWord" "[I", Cond.fieldLink RX4 18 "WrongWord$Moment" "triedGuard" "[I", Cond.fieldLink RX4 21 "WrongWord$Moment" "triedTaken" "[I", Cond.fieldLink RX4 9 "WrongWord$Moment" "took" "[I", Cond.initialized RX7] : List Cond) ++ (([Cond.static yX7_bit] : List Cond) ++ ([] : List Cond)))
def wsX4_addTry : List Cond := .code yX4_addTry cX4_addTry 4 none :: (wsX4_addTry_o ++ (wsX40 ++ (wsX7_bit ++ ([] : List Cond))))
set_option maxRecDepth 100000 in
theorem itX4_addTry_o : ∀ w ∈ wsX4_addTry_o, w ∈ lw_tbl := List.forall_mem_append.mpr ⟨fun w h => ch_1 w (mem_r (big := tables_1_1) _ [63, 43, 46, 49, 41, 1] (by decide +kernel) w h), List.forall_mem_append.mpr ⟨fun w h => ch_2 w (mem_r (big := tables_1_2) _ [235] (by decide +kernel) w h), fun _ h => absurd h List.not_mem_nil⟩⟩
set_option maxRecDepth 100000 in
theorem itX4_addTry : ∀ w ∈ wsX4_addTry, w ∈ lw_tbl := List.forall_mem_cons.mpr ⟨ch_2 _ (List.mem_of_getElem? (l := tables_1_2) (i := 233) (by decide +kernel)), List.forall_mem_append.mpr ⟨itX4_addTry_o, List.forall_mem_append.mpr ⟨itX40, List.forall_mem_append.mpr ⟨itX7_bit, fun _ h => absurd h List.not_mem_nil⟩⟩⟩⟩
set_option maxRecDepth 100000 in
theorem gdX4_addTry_o : ∀ w ∈ wsX4_addTry_o, goodWord w = true := gd_o (by decide +kernel)
set_option maxRecDepth 100000 in
theorem gdX4_addTry : ∀ w ∈ wsX4_addTry, goodWord w = true := List.forall_mem_cons.mpr ⟨by decide +kernel, List.forall_mem_append.mpr ⟨gdX4_addTry_o, List.forall_mem_append.mpr ⟨gdX40, List.forall_mem_append.mpr ⟨gdX7_bit, fun _ h => absurd h List.not_mem_nil⟩⟩⟩⟩
def wsX4_tookInAll_o : List Cond := (([Cond.fieldLink RX4 9 "WrongWord$Moment" "took" "[I"] : List Cond) ++ ([] : List Cond))
def wsX4_tookInAll : List Cond := .code yX4_tookInAll cX4_tookInAll 3 (some .int) :: (wsX4_tookInAll_o ++ (wsX40 ++ ([] : List Cond)))
set_option maxRecDepth 100000 in
theorem itX4_tookInAll_o : ∀ w ∈ wsX4_tookInAll_o, w ∈ lw_tbl := List.forall_mem_append.mpr ⟨fun w h => ch_1 w (mem_r (big := tables_1_1) _ [41] (by decide +kernel) w h), fun _ h => absurd h List.not_mem_nil⟩
set_option maxRecDepth 100000 in
theorem itX4_tookInAll : ∀ w ∈ wsX4_tookInAll, w ∈ lw_tbl := List.forall_mem_cons.mpr ⟨ch_4 _ (List.mem_of_getElem? (l := tables_1_4) (i := 39) (by decide +kernel)), List.forall_mem_append.mpr ⟨itX4_tookInAll_o, List.forall_mem_append.mpr ⟨itX40, fun _ h => absurd h List.not_mem_nil⟩⟩⟩
set_option maxRecDepth 100000 in
theorem gdX4_tookInAll_o : ∀ w ∈ wsX4_tookInAll_o, goodWord w = true := gd_o (by decide +kernel)
set_option maxRecDepth 100000 in
theorem gdX4_tookInAll : ∀ w ∈ wsX4_tookInAll, goodWord w = true := List.forall_mem_cons.mpr ⟨by decide +kernel, List.forall_mem_append.mpr ⟨gdX4_tookInAll_o, List.forall_mem_append.mpr ⟨gdX40, fun _ h => absurd h List.not_mem_nil⟩⟩⟩
def wsX5_init_o : List Cond := (([Cond.methodLink RX5 3 objectInit, Cond.instanceMethod objectInit, Cond.code objectInit ⟨#[0xb1]⟩ 1 none, Cond.arrayClass .int, Cond.fieldLink RX5 9 "WrongWord$Row" "items" "[I", Cond.fieldLink RX5 15 "WrongWord$Row" "lane" "I"] : List Cond) ++ ([] : List Cond))
def wsX5_init : List Cond := .code yX5_init cX5_init 1 none :: (wsX5_init_o ++ (wsX50 ++ ([] : List Cond)))
set_option maxRecDepth 100000 in
theorem itX5_init_o : ∀ w ∈ wsX5_init_o, w ∈ lw_tbl := List.forall_mem_append.mpr ⟨fun w h => ch_1 w (mem_r (big := tables_1_1) _ [222, 19, 20, 83, 223, 225] (by decide +kernel) w h), fun _ h => absurd h List.not_mem_nil⟩
set_option maxRecDepth 100000 in
theorem itX5_init : ∀ w ∈ wsX5_init, w ∈ lw_tbl := List.forall_mem_cons.mpr ⟨ch_1 _ (List.mem_of_getElem? (l := tables_1_1) (i := 221) (by decide +kernel)), List.forall_mem_append.mpr ⟨itX5_init_o, List.forall_mem_append.mpr ⟨itX50, fun _ h => absurd h List.not_mem_nil⟩⟩⟩
set_option maxRecDepth 100000 in
theorem gdX5_init_o : ∀ w ∈ wsX5_init_o, goodWord w = true := gd_o (by decide +kernel)
set_option maxRecDepth 100000 in
theorem gdX5_init : ∀ w ∈ wsX5_init, goodWord w = true := List.forall_mem_cons.mpr ⟨by decide +kernel, List.forall_mem_append.mpr ⟨gdX5_init_o, List.forall_mem_append.mpr ⟨gdX50, fun _ h => absurd h List.not_mem_nil⟩⟩⟩
