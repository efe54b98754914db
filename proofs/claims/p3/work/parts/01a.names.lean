theorem tb_d {c : ByteArray} {t : List (Nat × Instr × Nat)} (h : (t.all fun q => decide (decode c q.1 = .ok q.2)) = true) (k : Nat) (q : Nat × Instr × Nat) (hk : t[k]? = some q) : decode c q.1 = .ok q.2 :=
  of_decide_eq_true (List.all_eq_true.mp h q (by first | exact List.mem_of_getElem? hk | exact List.getElem?_mem hk))
/-! ===== BEGIN words of one list among another's, by their places ===== -/
theorem goodIn_r {big : List Cond} (ws : List Cond) (ps : List Nat) (hp : ws = ps.filterMap (fun i => big[i]?)) (h : ws.all goodWord = true) : GoodIn big ws := by
  intro w hw
  have h1 := List.all_eq_true.mp h w hw
  rw [hp] at hw
  obtain ⟨i, -, hi⟩ := List.mem_filterMap.mp hw
  have hm : w ∈ big := by first | exact List.mem_of_getElem? hi | exact List.getElem?_mem hi
  exact ⟨hm, good_of_word h1⟩
theorem goodIn_app {big a b : List Cond} (ha : GoodIn big a) (hb : GoodIn big b) : GoodIn big (a ++ b) := fun w h => (List.mem_append.mp h).elim (ha w) (hb w)
theorem goodIn_ca {big a b : List Cond} {c : Cond} (ha : GoodIn big (c :: a)) (hb : GoodIn big b) : GoodIn big (c :: (a ++ b)) := fun w h => (List.mem_cons.mp h).elim (fun e => ha w (List.mem_cons.mpr (Or.inl e))) (fun h => (List.mem_append.mp h).elim (fun h => ha w (List.mem_cons.mpr (Or.inr h))) (hb w))
theorem goodIn_sub {big ws : List Cond} (hm : ∀ w ∈ ws, w ∈ big) (h : ws.all goodWord = true) : GoodIn big ws := fun w hw => ⟨hm w hw, good_of_word (List.all_eq_true.mp h w hw)⟩
/-! ===== END ===== -/

/-! ===== BEGIN printed: names, fields, word lists, decode rows ===== -/
def RX0 : String := "WrongWord$Acts"
def TX0 : u_T := fun k => match k with
  | 0 => ("WrongWord$Acts", "ahead", "[LWrongWord$Moment;", true)
  | 1 => ("WrongWord$Acts", "at", "I", false)
  | _ => ("WrongWord$Acts", "kept", "I", false)
def tyX0 : Nat → FieldType := fun k => match k with
  | 0 => .array (.object "WrongWord$Moment")
  | 1 => .int
  | _ => .int
abbrev wsX00 : List Cond := u_ws RX0 TX0 3
theorem nmX0 : ∀ a, a < 3 → ∀ b, b < 3 → a ≠ b → (TX0 a).2.1 ≠ (TX0 b).2.1 := by decide +kernel
theorem tyX0_ok : ∀ k, k < 3 → parseFieldDescriptor (TX0 k).2.2.1 = some (tyX0 k) := by decide +kernel
abbrev cX0_init : ByteArray := prog_2_method_1_code
def yX0_init : MethodName := ⟨RX0, "<init>", "()V"⟩
abbrev cX0_forget : ByteArray := prog_2_method_2_code
def yX0_forget : MethodName := ⟨RX0, "forget", "()V"⟩
abbrev cX0_keep : ByteArray := prog_2_method_3_code
def yX0_keep : MethodName := ⟨RX0, "keep", "(LWrongWord$Moment;)V"⟩
abbrev cX0_takeBack : ByteArray := prog_2_method_4_code
def yX0_takeBack : MethodName := ⟨RX0, "takeBack", "(LWrongWord$Moment;)Z"⟩
def RX1 : String := "WrongWord$Asks"
def TX1 : u_T := fun k => match k with
  | 0 => ("WrongWord$Asks", "bodies", "[I", true)
  | 1 => ("WrongWord$Asks", "begun", "I", false)
  | 2 => ("WrongWord$Asks", "number", "I", false)
  | 3 => ("WrongWord$Asks", "kind", "I", false)
  | 4 => ("WrongWord$Asks", "fee", "I", false)
  | _ => ("WrongWord$Asks", "took", "I", false)
def tyX1 : Nat → FieldType := fun k => match k with
  | 0 => .array .int
  | 1 => .int
  | 2 => .int
  | 3 => .int
  | 4 => .int
  | _ => .int
abbrev wsX10 : List Cond := u_ws RX1 TX1 6
theorem nmX1 : ∀ a, a < 6 → ∀ b, b < 6 → a ≠ b → (TX1 a).2.1 ≠ (TX1 b).2.1 := by decide +kernel
theorem tyX1_ok : ∀ k, k < 6 → parseFieldDescriptor (TX1 k).2.2.1 = some (tyX1 k) := by decide +kernel
abbrev cX1_init : ByteArray := prog_3_method_1_code
def yX1_init : MethodName := ⟨RX1, "<init>", "()V"⟩
abbrev cX1_isA : ByteArray := prog_3_method_2_code
def yX1_isA : MethodName := ⟨RX1, "isA", "(II)Z"⟩
abbrev cX1_turnTo : ByteArray := prog_3_method_3_code
def yX1_turnTo : MethodName := ⟨RX1, "turnTo", "(IIII)V"⟩
abbrev cX1_answer : ByteArray := prog_3_method_4_code
def yX1_answer : MethodName := ⟨RX1, "answer", "(I)I"⟩
abbrev cX1_sizeBody : ByteArray := prog_3_method_5_code
def yX1_sizeBody : MethodName := ⟨RX1, "sizeBody", "()I"⟩
abbrev cX1_markBody : ByteArray := prog_3_method_6_code
def yX1_markBody : MethodName := ⟨RX1, "markBody", "()I"⟩
abbrev cX1_leave : ByteArray := prog_3_method_7_code
def yX1_leave : MethodName := ⟨RX1, "leave", "(I)V"⟩
abbrev cX1_given : ByteArray := prog_3_method_8_code
def yX1_given : MethodName := ⟨RX1, "given", "(LWrongWord$Asks;II)I"⟩
def RX2 : String := "WrongWord$Gate"
def TX2 : u_T := fun k => match k with
  | 0 => ("WrongWord$Gate", "letters", "[I", true)
  | 1 => ("WrongWord$Gate", "kinds", "[I", true)
  | 2 => ("WrongWord$Gate", "fees", "[I", true)
  | 3 => ("WrongWord$Gate", "now", "LWrongWord$Moment;", true)
  | 4 => ("WrongWord$Gate", "step", "I", false)
  | 5 => ("WrongWord$Gate", "shrove", "I", false)
  | 6 => ("WrongWord$Gate", "words", "I", false)
  | _ => ("WrongWord$Gate", "guards", "I", false)
def tyX2 : Nat → FieldType := fun k => match k with
  | 0 => .array .int
  | 1 => .array .int
  | 2 => .array .int
  | 3 => .object "WrongWord$Moment"
  | 4 => .int
  | 5 => .int
  | 6 => .int
  | _ => .int
abbrev wsX20 : List Cond := u_ws RX2 TX2 8
theorem nmX2 : ∀ a, a < 8 → ∀ b, b < 8 → a ≠ b → (TX2 a).2.1 ≠ (TX2 b).2.1 := by decide +kernel
theorem tyX2_ok : ∀ k, k < 8 → parseFieldDescriptor (TX2 k).2.2.1 = some (tyX2 k) := by decide +kernel
abbrev cX2_init : ByteArray := prog_4_method_1_code
def yX2_init : MethodName := ⟨RX2, "<init>", "()V"⟩
abbrev cX2_become : ByteArray := prog_4_method_2_code
def yX2_become : MethodName := ⟨RX2, "become", "(LWrongWord$Gate;)V"⟩
abbrev cX2_secretBy : ByteArray := prog_4_method_3_code
def yX2_secretBy : MethodName := ⟨RX2, "secretBy", "(IIII)I"⟩
abbrev cX2_secretIn : ByteArray := prog_4_method_4_code
def yX2_secretIn : MethodName := ⟨RX2, "secretIn", "(I)I"⟩
abbrev cX2_distance : ByteArray := prog_4_method_5_code
def yX2_distance : MethodName := ⟨RX2, "distance", "(II)I"⟩
abbrev cX2_lips : ByteArray := prog_4_method_6_code
def yX2_lips : MethodName := ⟨RX2, "lips", "(II)I"⟩
abbrev cX2_guardOn : ByteArray := prog_4_method_7_code
def yX2_guardOn : MethodName := ⟨RX2, "guardOn", "(II)I"⟩
abbrev cX2_isThere : ByteArray := prog_4_method_8_code
def yX2_isThere : MethodName := ⟨RX2, "isThere", "(I)Z"⟩
abbrev cX2_wouldTake : ByteArray := prog_4_method_9_code
def yX2_wouldTake : MethodName := ⟨RX2, "wouldTake", "(IIII)Z"⟩
abbrev cX2_catchesIf : ByteArray := prog_4_method_10_code
def yX2_catchesIf : MethodName := ⟨RX2, "catchesIf", "(IIII)Z"⟩
abbrev cX2_catches : ByteArray := prog_4_method_11_code
def yX2_catches : MethodName := ⟨RX2, "catches", "(III)Z"⟩
abbrev cX2_hoursOf : ByteArray := prog_4_method_12_code
def yX2_hoursOf : MethodName := ⟨RX2, "hoursOf", "(I)I"⟩
abbrev cX2_wordsIn : ByteArray := prog_4_method_13_code
def yX2_wordsIn : MethodName := ⟨RX2, "wordsIn", "(II)I"⟩
abbrev cX2_hoursOpen : ByteArray := prog_4_method_14_code
def yX2_hoursOpen : MethodName := ⟨RX2, "hoursOpen", "(II)I"⟩
abbrev cX2_nightsUntil : ByteArray := prog_4_method_15_code
def yX2_nightsUntil : MethodName := ⟨RX2, "nightsUntil", "(I)I"⟩
abbrev cX2_hourIn : ByteArray := prog_4_method_16_code
def yX2_hourIn : MethodName := ⟨RX2, "hourIn", "(II)I"⟩
abbrev cX2_guardsAgainst : ByteArray := prog_4_method_17_code
def yX2_guardsAgainst : MethodName := ⟨RX2, "guardsAgainst", "(II)I"⟩
abbrev cX2_feeOf : ByteArray := prog_4_method_18_code
def yX2_feeOf : MethodName := ⟨RX2, "feeOf", "(I)I"⟩
abbrev cX2_nearestTo : ByteArray := prog_4_method_19_code
def yX2_nearestTo : MethodName := ⟨RX2, "nearestTo", "(I)I"⟩
def RX3 : String := "WrongWord$Guesses"
def TX3 : u_T := fun k => match k with
  | 0 => ("WrongWord$Guesses", "catching", "[I", true)
  | _ => ("WrongWord$Guesses", "menFor", "[I", true)
def tyX3 : Nat → FieldType := fun k => match k with
  | 0 => .array .int
  | _ => .array .int
abbrev wsX30 : List Cond := u_ws RX3 TX3 2
theorem nmX3 : ∀ a, a < 2 → ∀ b, b < 2 → a ≠ b → (TX3 a).2.1 ≠ (TX3 b).2.1 := by decide +kernel
theorem tyX3_ok : ∀ k, k < 2 → parseFieldDescriptor (TX3 k).2.2.1 = some (tyX3 k) := by decide +kernel
abbrev cX3_init : ByteArray := prog_5_method_1_code
def yX3_init : MethodName := ⟨RX3, "<init>", "()V"⟩
abbrev cX3_agreeing : ByteArray := prog_5_method_2_code
def yX3_agreeing : MethodName := ⟨RX3, "agreeing", "(LWrongWord$Gate;)I"⟩
abbrev cX3_agreesWithTries : ByteArray := prog_5_method_3_code
def yX3_agreesWithTries : MethodName := ⟨RX3, "agreesWithTries", "(LWrongWord$Gate;I)Z"⟩
abbrev cX3_secretsCatching : ByteArray := prog_5_method_4_code
def yX3_secretsCatching : MethodName := ⟨RX3, "secretsCatching", "(LWrongWord$Gate;II)I"⟩
abbrev cX3_leftAtWorst : ByteArray := prog_5_method_5_code
def yX3_leftAtWorst : MethodName := ⟨RX3, "leftAtWorst", "(LWrongWord$Gate;II)I"⟩
abbrev cX3_bestTry : ByteArray := prog_5_method_6_code
def yX3_bestTry : MethodName := ⟨RX3, "bestTry", "(LWrongWord$Gate;I)I"⟩
abbrev cX3_fewestMen : ByteArray := prog_5_method_7_code
def yX3_fewestMen : MethodName := ⟨RX3, "fewestMen", "(LWrongWord$Gate;I)I"⟩
abbrev cX3_menToSplit : ByteArray := prog_5_method_8_code
def yX3_menToSplit : MethodName := ⟨RX3, "menToSplit", "(II)I"⟩
def RX4 : String := "WrongWord$Moment"
def TX4 : u_T := fun k => match k with
  | 0 => ("WrongWord$Moment", "took", "[I", true)
  | 1 => ("WrongWord$Moment", "triedWord", "[I", true)
  | 2 => ("WrongWord$Moment", "triedGuard", "[I", true)
  | 3 => ("WrongWord$Moment", "triedTaken", "[I", true)
  | 4 => ("WrongWord$Moment", "night", "I", false)
  | 5 => ("WrongWord$Moment", "start", "I", false)
  | 6 => ("WrongWord$Moment", "there", "I", false)
  | _ => ("WrongWord$Moment", "tries", "I", false)
def tyX4 : Nat → FieldType := fun k => match k with
  | 0 => .array .int
  | 1 => .array .int
  | 2 => .array .int
  | 3 => .array .int
  | 4 => .int
  | 5 => .int
  | 6 => .int
  | _ => .int
abbrev wsX40 : List Cond := u_ws RX4 TX4 8
theorem nmX4 : ∀ a, a < 8 → ∀ b, b < 8 → a ≠ b → (TX4 a).2.1 ≠ (TX4 b).2.1 := by decide +kernel
theorem tyX4_ok : ∀ k, k < 8 → parseFieldDescriptor (TX4 k).2.2.1 = some (tyX4 k) := by decide +kernel
abbrev cX4_init : ByteArray := prog_6_method_1_code
def yX4_init : MethodName := ⟨RX4, "<init>", "()V"⟩
abbrev cX4_begin : ByteArray := prog_6_method_2_code
def yX4_begin : MethodName := ⟨RX4, "begin", "(I)V"⟩
abbrev cX4_become : ByteArray := prog_6_method_3_code
def yX4_become : MethodName := ⟨RX4, "become", "(LWrongWord$Moment;)V"⟩
abbrev cX4_goBy : ByteArray := prog_6_method_4_code
def yX4_goBy : MethodName := ⟨RX4, "goBy", "()V"⟩
abbrev cX4_addTry : ByteArray := prog_6_method_5_code
def yX4_addTry : MethodName := ⟨RX4, "addTry", "(IIZ)V"⟩
abbrev cX4_tookInAll : ByteArray := prog_6_method_6_code
def yX4_tookInAll : MethodName := ⟨RX4, "tookInAll", "()I"⟩
def RX5 : String := "WrongWord$Row"
def TX5 : u_T := fun k => match k with
  | 0 => ("WrongWord$Row", "items", "[I", true)
  | 1 => ("WrongWord$Row", "lane", "I", false)
  | _ => ("WrongWord$Row", "size", "I", false)
def tyX5 : Nat → FieldType := fun k => match k with
  | 0 => .array .int
  | 1 => .int
  | _ => .int
abbrev wsX50 : List Cond := u_ws RX5 TX5 3
theorem nmX5 : ∀ a, a < 3 → ∀ b, b < 3 → a ≠ b → (TX5 a).2.1 ≠ (TX5 b).2.1 := by decide +kernel
theorem tyX5_ok : ∀ k, k < 3 → parseFieldDescriptor (TX5 k).2.2.1 = some (tyX5 k) := by decide +kernel
abbrev cX5_init : ByteArray := prog_7_method_1_code
def yX5_init : MethodName := ⟨RX5, "<init>", "()V"⟩
abbrev cX5_make : ByteArray := prog_7_method_2_code
def yX5_make : MethodName := ⟨RX5, "make", "(II)V"⟩
abbrev cX5_reaches : ByteArray := prog_7_method_3_code
def yX5_reaches : MethodName := ⟨RX5, "reaches", "(II)Z"⟩
abbrev cX5_findingOf : ByteArray := prog_7_method_4_code
def yX5_findingOf : MethodName := ⟨RX5, "findingOf", "(II)I"⟩
abbrev cX5_put : ByteArray := prog_7_method_5_code
def yX5_put : MethodName := ⟨RX5, "put", "(II)I"⟩
def RX6 : String := "WrongWord$Tape"
def TX6 : u_T := fun k => match k with
  | 0 => ("WrongWord$Tape", "bytes", "[I", true)
  | 1 => ("WrongWord$Tape", "draft", "LWrongWord$Gate;", true)
  | 2 => ("WrongWord$Tape", "length", "I", false)
  | 3 => ("WrongWord$Tape", "fault", "I", false)
  | 4 => ("WrongWord$Tape", "place", "I", false)
  | 5 => ("WrongWord$Tape", "at", "I", false)
  | _ => ("WrongWord$Tape", "value", "I", false)
def tyX6 : Nat → FieldType := fun k => match k with
  | 0 => .array .int
  | 1 => .object "WrongWord$Gate"
  | 2 => .int
  | 3 => .int
  | 4 => .int
  | 5 => .int
  | _ => .int
abbrev wsX60 : List Cond := u_ws RX6 TX6 7
theorem nmX6 : ∀ a, a < 7 → ∀ b, b < 7 → a ≠ b → (TX6 a).2.1 ≠ (TX6 b).2.1 := by decide +kernel
theorem tyX6_ok : ∀ k, k < 7 → parseFieldDescriptor (TX6 k).2.2.1 = some (tyX6 k) := by decide +kernel
abbrev cX6_init : ByteArray := prog_8_method_1_code
def yX6_init : MethodName := ⟨RX6, "<init>", "()V"⟩
abbrev cX6_append : ByteArray := prog_8_method_2_code
def yX6_append : MethodName := ⟨RX6, "append", "(I)Z"⟩
abbrev cX6_read : ByteArray := prog_8_method_3_code
def yX6_read : MethodName := ⟨RX6, "read", "()Z"⟩
abbrev cX6_readLaw : ByteArray := prog_8_method_4_code
def yX6_readLaw : MethodName := ⟨RX6, "readLaw", "()Z"⟩
abbrev cX6_readWord : ByteArray := prog_8_method_5_code
def yX6_readWord : MethodName := ⟨RX6, "readWord", "()Z"⟩
abbrev cX6_wasTold : ByteArray := prog_8_method_6_code
def yX6_wasTold : MethodName := ⟨RX6, "wasTold", "(I)Z"⟩
abbrev cX6_readGuard : ByteArray := prog_8_method_7_code
def yX6_readGuard : MethodName := ⟨RX6, "readGuard", "()Z"⟩
abbrev cX6_kindOf : ByteArray := prog_8_method_8_code
def yX6_kindOf : MethodName := ⟨RX6, "kindOf", "(I)I"⟩
abbrev cX6_readSign : ByteArray := prog_8_method_9_code
def yX6_readSign : MethodName := ⟨RX6, "readSign", "(I)Z"⟩
abbrev cX6_readNumber : ByteArray := prog_8_method_10_code
def yX6_readNumber : MethodName := ⟨RX6, "readNumber", "(I)Z"⟩
abbrev cX6_isFigure : ByteArray := prog_8_method_11_code
def yX6_isFigure : MethodName := ⟨RX6, "isFigure", "(I)Z"⟩
abbrev cX6_here : ByteArray := prog_8_method_12_code
def yX6_here : MethodName := ⟨RX6, "here", "()I"⟩
abbrev cX6_faulty : ByteArray := prog_8_method_13_code
def yX6_faulty : MethodName := ⟨RX6, "faulty", "(I)Z"⟩
def RX7 : String := "WrongWord"
def TX7 : u_T := fun k => match k with
  | 0 => ("WrongWord", "rows", "[LWrongWord$Row;", true)
  | 1 => ("WrongWord", "tape", "LWrongWord$Tape;", true)
  | 2 => ("WrongWord", "gate", "LWrongWord$Gate;", true)
  | 3 => ("WrongWord", "acts", "LWrongWord$Acts;", true)
  | 4 => ("WrongWord", "images", "[LWrongWord$Gate;", true)
  | 5 => ("WrongWord", "guesses", "LWrongWord$Guesses;", true)
  | 6 => ("WrongWord", "asks", "LWrongWord$Asks;", true)
  | 7 => ("WrongWord", "latestFault", "I", false)
  | _ => ("WrongWord", "latestFinding", "I", false)
def tyX7 : Nat → FieldType := fun k => match k with
  | 0 => .array (.object "WrongWord$Row")
  | 1 => .object "WrongWord$Tape"
  | 2 => .object "WrongWord$Gate"
  | 3 => .object "WrongWord$Acts"
  | 4 => .array (.object "WrongWord$Gate")
  | 5 => .object "WrongWord$Guesses"
  | 6 => .object "WrongWord$Asks"
  | 7 => .int
  | _ => .int
abbrev wsX70 : List Cond := u_ws RX7 TX7 9
theorem nmX7 : ∀ a, a < 9 → ∀ b, b < 9 → a ≠ b → (TX7 a).2.1 ≠ (TX7 b).2.1 := by decide +kernel
theorem tyX7_ok : ∀ k, k < 9 → parseFieldDescriptor (TX7 k).2.2.1 = some (tyX7 k) := by decide +kernel
abbrev cX7_init : ByteArray := prog_1_method_1_code
def yX7_init : MethodName := ⟨RX7, "<init>", "()V"⟩
abbrev cX7_row : ByteArray := prog_1_method_2_code
def yX7_row : MethodName := ⟨RX7, "row", "(III)I"⟩
abbrev cX7_set : ByteArray := prog_1_method_3_code
def yX7_set : MethodName := ⟨RX7, "set", "(III)I"⟩
abbrev cX7_copy : ByteArray := prog_1_method_4_code
def yX7_copy : MethodName := ⟨RX7, "copy", "(IIIII)I"⟩
abbrev cX7_drop : ByteArray := prog_1_method_5_code
def yX7_drop : MethodName := ⟨RX7, "drop", "(I)I"⟩
abbrev cX7_feed : ByteArray := prog_1_method_6_code
def yX7_feed : MethodName := ⟨RX7, "feed", "(I)I"⟩
abbrev cX7_gate : ByteArray := prog_1_method_7_code
def yX7_gate : MethodName := ⟨RX7, "gate", "()I"⟩
abbrev cX7_fault : ByteArray := prog_1_method_8_code
def yX7_fault : MethodName := ⟨RX7, "fault", "()I"⟩
abbrev cX7_nights : ByteArray := prog_1_method_9_code
def yX7_nights : MethodName := ⟨RX7, "nights", "(I)I"⟩
abbrev cX7_say : ByteArray := prog_1_method_10_code
def yX7_say : MethodName := ⟨RX7, "say", "(II)I"⟩
abbrev cX7_start : ByteArray := prog_1_method_11_code
def yX7_start : MethodName := ⟨RX7, "start", "(I)I"⟩
abbrev cX7_dismiss : ByteArray := prog_1_method_12_code
def yX7_dismiss : MethodName := ⟨RX7, "dismiss", "(II)I"⟩
abbrev cX7_undo : ByteArray := prog_1_method_13_code
def yX7_undo : MethodName := ⟨RX7, "undo", "()I"⟩
abbrev cX7_letter : ByteArray := prog_1_method_14_code
def yX7_letter : MethodName := ⟨RX7, "letter", "(II)I"⟩
abbrev cX7_like : ByteArray := prog_1_method_15_code
def yX7_like : MethodName := ⟨RX7, "like", "(III)I"⟩
abbrev cX7_guard : ByteArray := prog_1_method_16_code
def yX7_guard : MethodName := ⟨RX7, "guard", "(II)I"⟩
abbrev cX7_tried : ByteArray := prog_1_method_17_code
def yX7_tried : MethodName := ⟨RX7, "tried", "(II)I"⟩
abbrev cX7_secret : ByteArray := prog_1_method_18_code
def yX7_secret : MethodName := ⟨RX7, "secret", "(I)I"⟩
abbrev cX7_taken : ByteArray := prog_1_method_19_code
def yX7_taken : MethodName := ⟨RX7, "taken", "(III)I"⟩
abbrev cX7_safe : ByteArray := prog_1_method_20_code
def yX7_safe : MethodName := ⟨RX7, "safe", "(II)I"⟩
abbrev cX7_open : ByteArray := prog_1_method_21_code
def yX7_open : MethodName := ⟨RX7, "open", "(II)I"⟩
abbrev cX7_next : ByteArray := prog_1_method_22_code
def yX7_next : MethodName := ⟨RX7, "next", "(I)I"⟩
abbrev cX7_agree : ByteArray := prog_1_method_23_code
def yX7_agree : MethodName := ⟨RX7, "agree", "()I"⟩
abbrev cX7_man : ByteArray := prog_1_method_24_code
def yX7_man : MethodName := ⟨RX7, "man", "(I)I"⟩
abbrev cX7_fewest : ByteArray := prog_1_method_25_code
def yX7_fewest : MethodName := ⟨RX7, "fewest", "()I"⟩
abbrev cX7_march : ByteArray := prog_1_method_26_code
def yX7_march : MethodName := ⟨RX7, "march", "(IIII)I"⟩
abbrev cX7_cheap : ByteArray := prog_1_method_27_code
def yX7_cheap : MethodName := ⟨RX7, "cheap", "(III)I"⟩
abbrev cX7_near : ByteArray := prog_1_method_28_code
def yX7_near : MethodName := ⟨RX7, "near", "(II)I"⟩
abbrev cX7_rules : ByteArray := prog_1_method_29_code
def yX7_rules : MethodName := ⟨RX7, "rules", "(IIII)I"⟩
abbrev cX7_fits : ByteArray := prog_1_method_30_code
def yX7_fits : MethodName := ⟨RX7, "fits", "(IIII)I"⟩
abbrev cX7_sure : ByteArray := prog_1_method_31_code
def yX7_sure : MethodName := ⟨RX7, "sure", "(IIII)I"⟩
abbrev cX7_drawn : ByteArray := prog_1_method_32_code
def yX7_drawn : MethodName := ⟨RX7, "drawn", "(III)I"⟩
abbrev cX7_image : ByteArray := prog_1_method_33_code
def yX7_image : MethodName := ⟨RX7, "image", "(I)I"⟩
abbrev cX7_restore : ByteArray := prog_1_method_34_code
def yX7_restore : MethodName := ⟨RX7, "restore", "(I)I"⟩
abbrev cX7_kind : ByteArray := prog_1_method_35_code
def yX7_kind : MethodName := ⟨RX7, "kind", "(I)I"⟩
abbrev cX7_as : ByteArray := prog_1_method_36_code
def yX7_as : MethodName := ⟨RX7, "as", "(II)I"⟩
abbrev cX7_ask : ByteArray := prog_1_method_37_code
def yX7_ask : MethodName := ⟨RX7, "ask", "(II)I"⟩
abbrev cX7_trace : ByteArray := prog_1_method_38_code
def yX7_trace : MethodName := ⟨RX7, "trace", "(I)I"⟩
abbrev cX7_count : ByteArray := prog_1_method_39_code
def yX7_count : MethodName := ⟨RX7, "count", "(I)I"⟩
abbrev cX7_status : ByteArray := prog_1_method_40_code
def yX7_status : MethodName := ⟨RX7, "status", "()I"⟩
abbrev cX7_found : ByteArray := prog_1_method_41_code
def yX7_found : MethodName := ⟨RX7, "found", "(I)I"⟩
abbrev cX7_unfound : ByteArray := prog_1_method_42_code
def yX7_unfound : MethodName := ⟨RX7, "unfound", "(I)I"⟩
abbrev cX7_noGate : ByteArray := prog_1_method_43_code
def yX7_noGate : MethodName := ⟨RX7, "noGate", "()Z"⟩
abbrev cX7_isRow : ByteArray := prog_1_method_44_code
def yX7_isRow : MethodName := ⟨RX7, "isRow", "(I)Z"⟩
abbrev cX7_isWord : ByteArray := prog_1_method_45_code
def yX7_isWord : MethodName := ⟨RX7, "isWord", "(I)Z"⟩
abbrev cX7_areWords : ByteArray := prog_1_method_46_code
def yX7_areWords : MethodName := ⟨RX7, "areWords", "(I)Z"⟩
abbrev cX7_isGuard : ByteArray := prog_1_method_47_code
def yX7_isGuard : MethodName := ⟨RX7, "isGuard", "(I)Z"⟩
abbrev cX7_isHour : ByteArray := prog_1_method_48_code
def yX7_isHour : MethodName := ⟨RX7, "isHour", "(I)Z"⟩
abbrev cX7_isAhead : ByteArray := prog_1_method_49_code
def yX7_isAhead : MethodName := ⟨RX7, "isAhead", "(I)Z"⟩
abbrev cX7_rowsThere : ByteArray := prog_1_method_50_code
def yX7_rowsThere : MethodName := ⟨RX7, "rowsThere", "()I"⟩
abbrev cX7_hourOfLast : ByteArray := prog_1_method_51_code
def yX7_hourOfLast : MethodName := ⟨RX7, "hourOfLast", "(LWrongWord$Row;II)I"⟩
abbrev cX7_rulesThatTell : ByteArray := prog_1_method_52_code
def yX7_rulesThatTell : MethodName := ⟨RX7, "rulesThatTell", "(LWrongWord$Row;III)I"⟩
abbrev cX7_kindsThatFit : ByteArray := prog_1_method_53_code
def yX7_kindsThatFit : MethodName := ⟨RX7, "kindsThatFit", "(LWrongWord$Row;I)I"⟩
abbrev cX7_secretsThatFit : ByteArray := prog_1_method_54_code
def yX7_secretsThatFit : MethodName := ⟨RX7, "secretsThatFit", "(ILWrongWord$Row;I)I"⟩
abbrev cX7_fitsTold : ByteArray := prog_1_method_55_code
def yX7_fitsTold : MethodName := ⟨RX7, "fitsTold", "(IILWrongWord$Row;I)Z"⟩
abbrev cX7_bit : ByteArray := prog_1_method_56_code
def yX7_bit : MethodName := ⟨RX7, "bit", "(Z)I"⟩
abbrev cX7_rest : ByteArray := prog_1_method_57_code
def yX7_rest : MethodName := ⟨RX7, "rest", "(II)I"⟩
abbrev cX7_lowest : ByteArray := prog_1_method_58_code
def yX7_lowest : MethodName := ⟨RX7, "lowest", "(II)I"⟩
abbrev cX7_commonDivisor : ByteArray := prog_1_method_59_code
def yX7_commonDivisor : MethodName := ⟨RX7, "commonDivisor", "(II)I"⟩
def RX8 : String := "WrongWordModel"
def TX8 : u_T := fun k => match k with
  | 0 => ("WrongWordModel", "lane", "[I", true)
  | 1 => ("WrongWordModel", "many", "[I", true)
  | 2 => ("WrongWordModel", "items", "[I", true)
  | 3 => ("WrongWordModel", "spare", "[I", true)
  | 4 => ("WrongWordModel", "status", "I", false)
  | 5 => ("WrongWordModel", "tape", "[I", true)
  | 6 => ("WrongWordModel", "taped", "I", false)
  | 7 => ("WrongWordModel", "faultKind", "I", false)
  | 8 => ("WrongWordModel", "faultPlace", "I", false)
  | 9 => ("WrongWordModel", "at", "I", false)
  | 10 => ("WrongWordModel", "start", "I", false)
  | 11 => ("WrongWordModel", "token", "I", false)
  | 12 => ("WrongWordModel", "value", "I", false)
  | 13 => ("WrongWordModel", "now", "[I", true)
  | 14 => ("WrongWordModel", "draft", "[I", true)
  | 15 => ("WrongWordModel", "tried", "[I", true)
  | 16 => ("WrongWordModel", "past", "[I", true)
  | 17 => ("WrongWordModel", "acts", "I", false)
  | 18 => ("WrongWordModel", "images", "[I", true)
  | 19 => ("WrongWordModel", "kept", "[Z", true)
  | 20 => ("WrongWordModel", "men", "[I", true)
  | 21 => ("WrongWordModel", "trace", "[I", true)
  | _ => ("WrongWordModel", "traced", "I", false)
def tyX8 : Nat → FieldType := fun k => match k with
  | 0 => .array .int
  | 1 => .array .int
  | 2 => .array .int
  | 3 => .array .int
  | 4 => .int
  | 5 => .array .int
  | 6 => .int
  | 7 => .int
  | 8 => .int
  | 9 => .int
  | 10 => .int
  | 11 => .int
  | 12 => .int
  | 13 => .array .int
  | 14 => .array .int
  | 15 => .array .int
  | 16 => .array .int
  | 17 => .int
  | 18 => .array .int
  | 19 => .array .boolean
  | 20 => .array .int
  | 21 => .array .int
  | _ => .int
abbrev wsX80 : List Cond := u_ws RX8 TX8 23
theorem nmX8 : ∀ a, a < 23 → ∀ b, b < 23 → a ≠ b → (TX8 a).2.1 ≠ (TX8 b).2.1 := by decide +kernel
theorem tyX8_ok : ∀ k, k < 23 → parseFieldDescriptor (TX8 k).2.2.1 = some (tyX8 k) := by decide +kernel
abbrev cX8_init : ByteArray := prog_10_method_1_code
def yX8_init : MethodName := ⟨RX8, "<init>", "()V"⟩
abbrev cX8_in : ByteArray := prog_10_method_3_code
def yX8_in : MethodName := ⟨RX8, "in", "(III)Z"⟩
abbrev cX8_has : ByteArray := prog_10_method_4_code
def yX8_has : MethodName := ⟨RX8, "has", "(II)Z"⟩
abbrev cX8_ones : ByteArray := prog_10_method_5_code
def yX8_ones : MethodName := ⟨RX8, "ones", "(I)I"⟩
abbrev cX8_found : ByteArray := prog_10_method_6_code
def yX8_found : MethodName := ⟨RX8, "found", "(I)I"⟩
abbrev cX8_well : ByteArray := prog_10_method_7_code
def yX8_well : MethodName := ⟨RX8, "well", "(I)I"⟩
abbrev cX8_copies : ByteArray := prog_10_method_8_code
def yX8_copies : MethodName := ⟨RX8, "copies", "([II[II)V"⟩
abbrev cX8_isRow : ByteArray := prog_10_method_9_code
def yX8_isRow : MethodName := ⟨RX8, "isRow", "(I)Z"⟩
abbrev cX8_isMissing : ByteArray := prog_10_method_10_code
def yX8_isMissing : MethodName := ⟨RX8, "isMissing", "(I)Z"⟩
abbrev cX8_cut : ByteArray := prog_10_method_11_code
def yX8_cut : MethodName := ⟨RX8, "cut", "(II)I"⟩
abbrev cX8_row : ByteArray := prog_10_method_12_code
def yX8_row : MethodName := ⟨RX8, "row", "(III)I"⟩
abbrev cX8_set : ByteArray := prog_10_method_13_code
def yX8_set : MethodName := ⟨RX8, "set", "(III)I"⟩
abbrev cX8_isPart : ByteArray := prog_10_method_14_code
def yX8_isPart : MethodName := ⟨RX8, "isPart", "(III)Z"⟩
abbrev cX8_copy : ByteArray := prog_10_method_15_code
def yX8_copy : MethodName := ⟨RX8, "copy", "(IIIII)I"⟩
abbrev cX8_drop : ByteArray := prog_10_method_16_code
def yX8_drop : MethodName := ⟨RX8, "drop", "(I)I"⟩
abbrev cX8_feed : ByteArray := prog_10_method_17_code
def yX8_feed : MethodName := ⟨RX8, "feed", "(I)I"⟩
abbrev cX8_byteAt : ByteArray := prog_10_method_18_code
def yX8_byteAt : MethodName := ⟨RX8, "byteAt", "(I)I"⟩
abbrev cX8_advances : ByteArray := prog_10_method_19_code
def yX8_advances : MethodName := ⟨RX8, "advances", "()V"⟩
abbrev cX8_isWell : ByteArray := prog_10_method_20_code
def yX8_isWell : MethodName := ⟨RX8, "isWell", "()Z"⟩
abbrev cX8_takes : ByteArray := prog_10_method_21_code
def yX8_takes : MethodName := ⟨RX8, "takes", "(ZI)I"⟩
abbrev cX8_figure : ByteArray := prog_10_method_22_code
def yX8_figure : MethodName := ⟨RX8, "figure", "(II)I"⟩
abbrev cX8_kindOf : ByteArray := prog_10_method_23_code
def yX8_kindOf : MethodName := ⟨RX8, "kindOf", "(I)I"⟩
abbrev cX8_follows : ByteArray := prog_10_method_24_code
def yX8_follows : MethodName := ⟨RX8, "follows", "(II)I"⟩
abbrev cX8_isTold : ByteArray := prog_10_method_25_code
def yX8_isTold : MethodName := ⟨RX8, "isTold", "(III)Z"⟩
abbrev cX8_letterOf : ByteArray := prog_10_method_26_code
def yX8_letterOf : MethodName := ⟨RX8, "letterOf", "()I"⟩
abbrev cX8_readsWord : ByteArray := prog_10_method_27_code
def yX8_readsWord : MethodName := ⟨RX8, "readsWord", "()V"⟩
abbrev cX8_readsGuard : ByteArray := prog_10_method_28_code
def yX8_readsGuard : MethodName := ⟨RX8, "readsGuard", "()V"⟩
abbrev cX8_must : ByteArray := prog_10_method_29_code
def yX8_must : MethodName := ⟨RX8, "must", "(Z)V"⟩
abbrev cX8_gate : ByteArray := prog_10_method_30_code
def yX8_gate : MethodName := ⟨RX8, "gate", "()I"⟩
abbrev cX8_fault : ByteArray := prog_10_method_31_code
def yX8_fault : MethodName := ⟨RX8, "fault", "()I"⟩
abbrev cX8_isGate : ByteArray := prog_10_method_32_code
def yX8_isGate : MethodName := ⟨RX8, "isGate", "()Z"⟩
abbrev cX8_isWord : ByteArray := prog_10_method_33_code
def yX8_isWord : MethodName := ⟨RX8, "isWord", "(I)Z"⟩
abbrev cX8_isGuard : ByteArray := prog_10_method_34_code
def yX8_isGuard : MethodName := ⟨RX8, "isGuard", "(I)Z"⟩
abbrev cX8_isHour : ByteArray := prog_10_method_35_code
def yX8_isHour : MethodName := ⟨RX8, "isHour", "(I)Z"⟩
abbrev cX8_isFar : ByteArray := prog_10_method_36_code
def yX8_isFar : MethodName := ⟨RX8, "isFar", "(I)Z"⟩
abbrev cX8_areWords : ByteArray := prog_10_method_37_code
def yX8_areWords : MethodName := ⟨RX8, "areWords", "(I)Z"⟩
abbrev cX8_secretOf : ByteArray := prog_10_method_38_code
def yX8_secretOf : MethodName := ⟨RX8, "secretOf", "([II)I"⟩
abbrev cX8_distance : ByteArray := prog_10_method_39_code
def yX8_distance : MethodName := ⟨RX8, "distance", "(II)I"⟩
abbrev cX8_lips : ByteArray := prog_10_method_40_code
def yX8_lips : MethodName := ⟨RX8, "lips", "(II)I"⟩
abbrev cX8_takesBy : ByteArray := prog_10_method_41_code
def yX8_takesBy : MethodName := ⟨RX8, "takesBy", "(IIII)Z"⟩
abbrev cX8_guardOn : ByteArray := prog_10_method_42_code
def yX8_guardOn : MethodName := ⟨RX8, "guardOn", "(II)I"⟩
abbrev cX8_kindIn : ByteArray := prog_10_method_43_code
def yX8_kindIn : MethodName := ⟨RX8, "kindIn", "(I)I"⟩
abbrev cX8_isTaken : ByteArray := prog_10_method_44_code
def yX8_isTaken : MethodName := ⟨RX8, "isTaken", "(IIIII)Z"⟩
abbrev cX8_isTakenNow : ByteArray := prog_10_method_45_code
def yX8_isTakenNow : MethodName := ⟨RX8, "isTakenNow", "(III)Z"⟩
abbrev cX8_notes : ByteArray := prog_10_method_46_code
def yX8_notes : MethodName := ⟨RX8, "notes", "()V"⟩
abbrev cX8_forgets : ByteArray := prog_10_method_47_code
def yX8_forgets : MethodName := ⟨RX8, "forgets", "()V"⟩
abbrev cX8_nights : ByteArray := prog_10_method_48_code
def yX8_nights : MethodName := ⟨RX8, "nights", "(I)I"⟩
abbrev cX8_say : ByteArray := prog_10_method_49_code
def yX8_say : MethodName := ⟨RX8, "say", "(II)I"⟩
abbrev cX8_start : ByteArray := prog_10_method_50_code
def yX8_start : MethodName := ⟨RX8, "start", "(I)I"⟩
abbrev cX8_dismiss : ByteArray := prog_10_method_51_code
def yX8_dismiss : MethodName := ⟨RX8, "dismiss", "(II)I"⟩
abbrev cX8_undo : ByteArray := prog_10_method_52_code
def yX8_undo : MethodName := ⟨RX8, "undo", "()I"⟩
abbrev cX8_letter : ByteArray := prog_10_method_53_code
def yX8_letter : MethodName := ⟨RX8, "letter", "(II)I"⟩
abbrev cX8_like : ByteArray := prog_10_method_54_code
def yX8_like : MethodName := ⟨RX8, "like", "(III)I"⟩
abbrev cX8_hoursOf : ByteArray := prog_10_method_55_code
def yX8_hoursOf : MethodName := ⟨RX8, "hoursOf", "(I)I"⟩
abbrev cX8_guard : ByteArray := prog_10_method_56_code
def yX8_guard : MethodName := ⟨RX8, "guard", "(II)I"⟩
abbrev cX8_tried : ByteArray := prog_10_method_57_code
def yX8_tried : MethodName := ⟨RX8, "tried", "(II)I"⟩
abbrev cX8_secret : ByteArray := prog_10_method_58_code
def yX8_secret : MethodName := ⟨RX8, "secret", "(I)I"⟩
abbrev cX8_taken : ByteArray := prog_10_method_59_code
def yX8_taken : MethodName := ⟨RX8, "taken", "(III)I"⟩
abbrev cX8_safe : ByteArray := prog_10_method_60_code
def yX8_safe : MethodName := ⟨RX8, "safe", "(II)I"⟩
abbrev cX8_areIn : ByteArray := prog_10_method_61_code
def yX8_areIn : MethodName := ⟨RX8, "areIn", "(IIII)Z"⟩
abbrev cX8_open : ByteArray := prog_10_method_62_code
def yX8_open : MethodName := ⟨RX8, "open", "(II)I"⟩
abbrev cX8_next : ByteArray := prog_10_method_63_code
def yX8_next : MethodName := ⟨RX8, "next", "(I)I"⟩
abbrev cX8_agreeing : ByteArray := prog_10_method_64_code
def yX8_agreeing : MethodName := ⟨RX8, "agreeing", "()I"⟩
abbrev cX8_agree : ByteArray := prog_10_method_65_code
def yX8_agree : MethodName := ⟨RX8, "agree", "()I"⟩
abbrev cX8_takenOf : ByteArray := prog_10_method_66_code
def yX8_takenOf : MethodName := ⟨RX8, "takenOf", "(III)I"⟩
abbrev cX8_man : ByteArray := prog_10_method_67_code
def yX8_man : MethodName := ⟨RX8, "man", "(I)I"⟩
abbrev cX8_menFor : ByteArray := prog_10_method_68_code
def yX8_menFor : MethodName := ⟨RX8, "menFor", "(I)I"⟩
abbrev cX8_fewest : ByteArray := prog_10_method_69_code
def yX8_fewest : MethodName := ⟨RX8, "fewest", "()I"⟩
abbrev cX8_march : ByteArray := prog_10_method_70_code
def yX8_march : MethodName := ⟨RX8, "march", "(IIII)I"⟩
abbrev cX8_cheap : ByteArray := prog_10_method_71_code
def yX8_cheap : MethodName := ⟨RX8, "cheap", "(III)I"⟩
abbrev cX8_near : ByteArray := prog_10_method_72_code
def yX8_near : MethodName := ⟨RX8, "near", "(II)I"⟩
abbrev cX8_rules : ByteArray := prog_10_method_73_code
def yX8_rules : MethodName := ⟨RX8, "rules", "(IIII)I"⟩
abbrev cX8_takesSo : ByteArray := prog_10_method_74_code
def yX8_takesSo : MethodName := ⟨RX8, "takesSo", "(III)Z"⟩
abbrev cX8_fits : ByteArray := prog_10_method_75_code
def yX8_fits : MethodName := ⟨RX8, "fits", "(IIII)I"⟩
abbrev cX8_sure : ByteArray := prog_10_method_76_code
def yX8_sure : MethodName := ⟨RX8, "sure", "(IIII)I"⟩
abbrev cX8_drawn : ByteArray := prog_10_method_77_code
def yX8_drawn : MethodName := ⟨RX8, "drawn", "(III)I"⟩
abbrev cX8_image : ByteArray := prog_10_method_78_code
def yX8_image : MethodName := ⟨RX8, "image", "(I)I"⟩
abbrev cX8_restore : ByteArray := prog_10_method_79_code
def yX8_restore : MethodName := ⟨RX8, "restore", "(I)I"⟩
abbrev cX8_kind : ByteArray := prog_10_method_80_code
def yX8_kind : MethodName := ⟨RX8, "kind", "(I)I"⟩
abbrev cX8_as : ByteArray := prog_10_method_81_code
def yX8_as : MethodName := ⟨RX8, "as", "(II)I"⟩
abbrev cX8_begins : ByteArray := prog_10_method_82_code
def yX8_begins : MethodName := ⟨RX8, "begins", "(I)V"⟩
abbrev cX8_keenMark : ByteArray := prog_10_method_83_code
def yX8_keenMark : MethodName := ⟨RX8, "keenMark", "(I)I"⟩
abbrev cX8_deafSize : ByteArray := prog_10_method_84_code
def yX8_deafSize : MethodName := ⟨RX8, "deafSize", "(I)I"⟩
abbrev cX8_keenSize : ByteArray := prog_10_method_85_code
def yX8_keenSize : MethodName := ⟨RX8, "keenSize", "(I)I"⟩
abbrev cX8_deafMark : ByteArray := prog_10_method_86_code
def yX8_deafMark : MethodName := ⟨RX8, "deafMark", "(I)I"⟩
abbrev cX8_ask : ByteArray := prog_10_method_87_code
def yX8_ask : MethodName := ⟨RX8, "ask", "(II)I"⟩
abbrev cX8_trace : ByteArray := prog_10_method_88_code
def yX8_trace : MethodName := ⟨RX8, "trace", "(I)I"⟩
abbrev cX8_count : ByteArray := prog_10_method_89_code
def yX8_count : MethodName := ⟨RX8, "count", "(I)I"⟩
abbrev cX8_status : ByteArray := prog_10_method_90_code
def yX8_status : MethodName := ⟨RX8, "status", "()I"⟩
def RJ6 : String := "java/lang/Integer"
def TJ6 : u_T := fun k => match k with
  | _ => ("", "", "", false)
def tyJ6 : Nat → FieldType := fun k => match k with
  | _ => .int
abbrev wsJ60 : List Cond := u_ws RJ6 TJ6 0
theorem nmJ6 : ∀ a, a < 0 → ∀ b, b < 0 → a ≠ b → (TJ6 a).2.1 ≠ (TJ6 b).2.1 := by decide +kernel
theorem tyJ6_ok : ∀ k, k < 0 → parseFieldDescriptor (TJ6 k).2.2.1 = some (tyJ6 k) := by decide +kernel
abbrev cJ6_bitCount_0f7a4 : ByteArray := prog_11_method_49_code
def yJ6_bitCount_0f7a4 : MethodName := ⟨RJ6, "bitCount", "(I)I"⟩
def RJ9 : String := "java/lang/Math"
def TJ9 : u_T := fun k => match k with
  | _ => ("", "", "", false)
def tyJ9 : Nat → FieldType := fun k => match k with
  | _ => .int
abbrev wsJ90 : List Cond := u_ws RJ9 TJ9 0
theorem nmJ9 : ∀ a, a < 0 → ∀ b, b < 0 → a ≠ b → (TJ9 a).2.1 ≠ (TJ9 b).2.1 := by decide +kernel
theorem tyJ9_ok : ∀ k, k < 0 → parseFieldDescriptor (TJ9 k).2.2.1 = some (tyJ9 k) := by decide +kernel
abbrev cJ9_max_7cf53 : ByteArray := prog_12_method_65_code
def yJ9_max_7cf53 : MethodName := ⟨RJ9, "max", "(II)I"⟩
abbrev cJ9_min_7cf53 : ByteArray := prog_12_method_69_code
def yJ9_min_7cf53 : MethodName := ⟨RJ9, "min", "(II)I"⟩
def RJ10 : String := "java/lang/System"
def TJ10 : u_T := fun k => match k with
  | _ => ("", "", "", false)
def tyJ10 : Nat → FieldType := fun k => match k with
  | _ => .int
abbrev wsJ100 : List Cond := u_ws RJ10 TJ10 0
theorem nmJ10 : ∀ a, a < 0 → ∀ b, b < 0 → a ≠ b → (TJ10 a).2.1 ≠ (TJ10 b).2.1 := by decide +kernel
theorem tyJ10_ok : ∀ k, k < 0 → parseFieldDescriptor (TJ10 k).2.2.1 = some (tyJ10 k) := by decide +kernel
def RL : String := "WrongWordLaw"
abbrev cL_law : ByteArray := code
def yL_law : MethodName := ⟨RL, "law", "([I)Z"⟩
def wsX4_init : List Cond := .code yX4_init cX4_init 1 none :: ([.methodLink RX4 3 objectInit, .instanceMethod objectInit, .code objectInit ⟨#[0xb1]⟩ 1 none, .arrayClass .int, .fieldLink RX4 9 "WrongWord$Moment" "took" "[I", .fieldLink RX4 15 "WrongWord$Moment" "triedWord" "[I", .fieldLink RX4 18 "WrongWord$Moment" "triedGuard" "[I", .fieldLink RX4 21 "WrongWord$Moment" "triedTaken" "[I"] ++ wsX40)
def wsX0_init : List Cond := .code yX0_init cX0_init 2 none :: ([.methodLink RX0 3 objectInit, .instanceMethod objectInit, .code objectInit ⟨#[0xb1]⟩ 1 none, .classLink RX0 9 RX4, .fieldLink RX0 11 "WrongWord$Acts" "ahead" "[LWrongWord$Moment;", .instantiable RX4 8, .initialized RX4, .instanceMethod yX4_init, .code yX4_init cX4_init 1 none, .methodLink RX4 3 objectInit, .arrayClass .int, .fieldLink RX4 9 "WrongWord$Moment" "took" "[I", .fieldLink RX4 15 "WrongWord$Moment" "triedWord" "[I", .fieldLink RX4 18 "WrongWord$Moment" "triedGuard" "[I", .fieldLink RX4 21 "WrongWord$Moment" "triedTaken" "[I"] ++ wsX00 ++ wsX40)
def wsX0_forget : List Cond := .code yX0_forget cX0_forget 1 none :: ([.fieldLink RX0 18 "WrongWord$Acts" "kept" "I"] ++ wsX00)
def wsX4_become : List Cond := .code yX4_become cX4_become 2 none :: ([.fieldLink RX4 24 "WrongWord$Moment" "night" "I", .fieldLink RX4 34 "WrongWord$Moment" "start" "I", .fieldLink RX4 28 "WrongWord$Moment" "there" "I", .fieldLink RX4 31 "WrongWord$Moment" "tries" "I", .fieldLink RX4 9 "WrongWord$Moment" "took" "[I", .methodLink RX4 37 arraycopyName, .native arraycopyName, .static arraycopyName, .initialized "java/lang/System", .fieldLink RX4 15 "WrongWord$Moment" "triedWord" "[I", .fieldLink RX4 18 "WrongWord$Moment" "triedGuard" "[I", .fieldLink RX4 21 "WrongWord$Moment" "triedTaken" "[I"] ++ wsX40)
def wsX0_keep : List Cond := .code yX0_keep cX0_keep 2 none :: ([.fieldLink RX0 11 "WrongWord$Acts" "ahead" "[LWrongWord$Moment;", .fieldLink RX0 22 "WrongWord$Acts" "at" "I", .fieldLink RX0 18 "WrongWord$Acts" "kept" "I", .methodLink RX0 29 Lib.Math.min.name, .static Lib.Math.min.name, .initialized "java/lang/Math", .code Lib.Math.min.name Lib.Math.min.code 2 (some .int), .methodLink RX0 25 yX4_become, .instanceMethod yX4_become, .selects RX4 yX4_become yX4_become, .initialized RX4, .code yX4_become cX4_become 2 none, .fieldLink RX4 24 "WrongWord$Moment" "night" "I", .fieldLink RX4 34 "WrongWord$Moment" "start" "I", .fieldLink RX4 28 "WrongWord$Moment" "there" "I", .fieldLink RX4 31 "WrongWord$Moment" "tries" "I", .fieldLink RX4 9 "WrongWord$Moment" "took" "[I", .methodLink RX4 37 arraycopyName, .native arraycopyName, .static arraycopyName, .initialized "java/lang/System", .fieldLink RX4 15 "WrongWord$Moment" "triedWord" "[I", .fieldLink RX4 18 "WrongWord$Moment" "triedGuard" "[I", .fieldLink RX4 21 "WrongWord$Moment" "triedTaken" "[I"] ++ wsX00 ++ wsX40)
def wsX0_takeBack : List Cond := .code yX0_takeBack cX0_takeBack 2 (some .boolean) :: ([.fieldLink RX0 18 "WrongWord$Acts" "kept" "I", .fieldLink RX0 22 "WrongWord$Acts" "at" "I", .fieldLink RX0 11 "WrongWord$Acts" "ahead" "[LWrongWord$Moment;", .methodLink RX0 25 yX4_become, .instanceMethod yX4_become, .selects RX4 yX4_become yX4_become, .initialized RX4, .code yX4_become cX4_become 2 none, .fieldLink RX4 24 "WrongWord$Moment" "night" "I", .fieldLink RX4 34 "WrongWord$Moment" "start" "I", .fieldLink RX4 28 "WrongWord$Moment" "there" "I", .fieldLink RX4 31 "WrongWord$Moment" "tries" "I", .fieldLink RX4 9 "WrongWord$Moment" "took" "[I", .methodLink RX4 37 arraycopyName, .native arraycopyName, .static arraycopyName, .initialized "java/lang/System", .fieldLink RX4 15 "WrongWord$Moment" "triedWord" "[I", .fieldLink RX4 18 "WrongWord$Moment" "triedGuard" "[I", .fieldLink RX4 21 "WrongWord$Moment" "triedTaken" "[I"] ++ wsX00 ++ wsX40)
def wsX1_init : List Cond := .code yX1_init cX1_init 1 none :: ([.methodLink RX1 3 objectInit, .instanceMethod objectInit, .code objectInit ⟨#[0xb1]⟩ 1 none, .arrayClass .int, .fieldLink RX1 11 "WrongWord$Asks" "bodies" "[I"] ++ wsX10)
def wsX1_isA : List Cond := .code yX1_isA cX1_isA 4 (some .boolean) :: ([.fieldLink RX1 15 "WrongWord$Asks" "NEAREST_ABOVE" "[I"])
def wsX1_turnTo : List Cond := .code yX1_turnTo cX1_turnTo 5 none :: ([.fieldLink RX1 18 "WrongWord$Asks" "number" "I", .fieldLink RX1 22 "WrongWord$Asks" "kind" "I", .fieldLink RX1 25 "WrongWord$Asks" "fee" "I", .fieldLink RX1 28 "WrongWord$Asks" "took" "I", .fieldLink RX1 31 "WrongWord$Asks" "begun" "I"] ++ wsX10)
def wsX1_sizeBody : List Cond := .code yX1_sizeBody cX1_sizeBody 1 (some .int) :: ([.fieldLink RX1 45 "WrongWord$Asks" "SIZE_BODY" "[I", .fieldLink RX1 22 "WrongWord$Asks" "kind" "I"] ++ wsX10)
def wsX1_markBody : List Cond := .code yX1_markBody cX1_markBody 1 (some .int) :: ([.fieldLink RX1 48 "WrongWord$Asks" "MARK_BODY" "[I", .fieldLink RX1 22 "WrongWord$Asks" "kind" "I"] ++ wsX10)
def wsX1_leave : List Cond := .code yX1_leave cX1_leave 2 none :: ([.fieldLink RX1 31 "WrongWord$Asks" "begun" "I", .fieldLink RX1 11 "WrongWord$Asks" "bodies" "[I"] ++ wsX10)
def wsX1_given : List Cond := .code yX1_given cX1_given 4 (some .int) :: ([.fieldLink RX1 25 "WrongWord$Asks" "fee" "I", .fieldLink RX1 18 "WrongWord$Asks" "number" "I", .fieldLink RX1 28 "WrongWord$Asks" "took" "I", .methodLink RX1 51 yX1_leave, .instanceMethod yX1_leave, .selects RX1 yX1_leave yX1_leave, .initialized RX1, .code yX1_leave cX1_leave 2 none, .fieldLink RX1 31 "WrongWord$Asks" "begun" "I", .fieldLink RX1 11 "WrongWord$Asks" "bodies" "[I", .methodLink RX1 41 yX1_given, .static yX1_given, .methodLink RX1 38 yX1_markBody, .instanceMethod yX1_markBody, .selects RX1 yX1_markBody yX1_markBody, .code yX1_markBody cX1_markBody 1 (some .int), .fieldLink RX1 48 "WrongWord$Asks" "MARK_BODY" "[I", .fieldLink RX1 22 "WrongWord$Asks" "kind" "I", .methodLink RX1 34 yX1_sizeBody, .instanceMethod yX1_sizeBody, .selects RX1 yX1_sizeBody yX1_sizeBody, .code yX1_sizeBody cX1_sizeBody 1 (some .int), .fieldLink RX1 45 "WrongWord$Asks" "SIZE_BODY" "[I"] ++ wsX10)
def wsX1_answer : List Cond := .code yX1_answer cX1_answer 2 (some .int) :: ([.methodLink RX1 34 yX1_sizeBody, .instanceMethod yX1_sizeBody, .selects RX1 yX1_sizeBody yX1_sizeBody, .initialized RX1, .code yX1_sizeBody cX1_sizeBody 1 (some .int), .fieldLink RX1 45 "WrongWord$Asks" "SIZE_BODY" "[I", .fieldLink RX1 22 "WrongWord$Asks" "kind" "I", .methodLink RX1 38 yX1_markBody, .instanceMethod yX1_markBody, .selects RX1 yX1_markBody yX1_markBody, .code yX1_markBody cX1_markBody 1 (some .int), .fieldLink RX1 48 "WrongWord$Asks" "MARK_BODY" "[I", .methodLink RX1 41 yX1_given, .static yX1_given, .code yX1_given cX1_given 4 (some .int), .fieldLink RX1 25 "WrongWord$Asks" "fee" "I", .fieldLink RX1 18 "WrongWord$Asks" "number" "I", .fieldLink RX1 28 "WrongWord$Asks" "took" "I", .methodLink RX1 51 yX1_leave, .instanceMethod yX1_leave, .selects RX1 yX1_leave yX1_leave, .code yX1_leave cX1_leave 2 none, .fieldLink RX1 31 "WrongWord$Asks" "begun" "I", .fieldLink RX1 11 "WrongWord$Asks" "bodies" "[I"] ++ wsX10)
def wsX2_init : List Cond := .code yX2_init cX2_init 1 none :: ([.methodLink RX2 3 objectInit, .instanceMethod objectInit, .code objectInit ⟨#[0xb1]⟩ 1 none, .arrayClass .int, .fieldLink RX2 9 "WrongWord$Gate" "letters" "[I", .fieldLink RX2 15 "WrongWord$Gate" "kinds" "[I", .fieldLink RX2 18 "WrongWord$Gate" "fees" "[I", .classLink RX2 21 RX4, .instantiable RX4 8, .initialized RX4, .fieldLink RX2 24 "WrongWord$Gate" "now" "LWrongWord$Moment;", .instanceMethod yX4_init, .code yX4_init cX4_init 1 none, .methodLink RX4 3 objectInit, .fieldLink RX4 9 "WrongWord$Moment" "took" "[I", .fieldLink RX4 15 "WrongWord$Moment" "triedWord" "[I", .fieldLink RX4 18 "WrongWord$Moment" "triedGuard" "[I", .fieldLink RX4 21 "WrongWord$Moment" "triedTaken" "[I"] ++ wsX20 ++ wsX40)
def wsX2_become_r1 : List Cond := [Cond.fieldLink RX2 9 "WrongWord$Gate" "letters" "[I", Cond.methodLink RX2 28 arraycopyName, Cond.native arraycopyName, Cond.static arraycopyName, Cond.initialized "java/lang/System", Cond.fieldLink RX2 15 "WrongWord$Gate" "kinds" "[I", Cond.fieldLink RX2 18 "WrongWord$Gate" "fees" "[I", Cond.fieldLink RX2 24 "WrongWord$Gate" "now" "LWrongWord$Moment;", Cond.fieldLink RX2 38 "WrongWord$Gate" "step" "I", Cond.fieldLink RX2 42 "WrongWord$Gate" "shrove" "I", Cond.fieldLink RX2 45 "WrongWord$Gate" "words" "I", Cond.fieldLink RX2 48 "WrongWord$Gate" "guards" "I", Cond.methodLink RX2 34 yX4_become, Cond.instanceMethod yX4_become, Cond.selects RX4 yX4_become yX4_become, Cond.initialized RX4, Cond.code yX4_become cX4_become 2 none, Cond.fieldLink RX4 24 "WrongWord$Moment" "night" "I", Cond.fieldLink RX4 34 "WrongWord$Moment" "start" "I", Cond.fieldLink RX4 28 "WrongWord$Moment" "there" "I", Cond.fieldLink RX4 31 "WrongWord$Moment" "tries" "I", Cond.fieldLink RX4 9 "WrongWord$Moment" "took" "[I", Cond.methodLink RX4 37 arraycopyName, Cond.fieldLink RX4 15 "WrongWord$Moment" "triedWord" "[I"]
def wsX2_become_r2 : List Cond := [Cond.fieldLink RX4 18 "WrongWord$Moment" "triedGuard" "[I", Cond.fieldLink RX4 21 "WrongWord$Moment" "triedTaken" "[I"]
def wsX2_become : List Cond := .code yX2_become cX2_become 2 none :: ((wsX2_become_r1 ++ wsX2_become_r2) ++ wsX20 ++ wsX40)
def wsX7_rest : List Cond := .code yX7_rest cX7_rest 2 (some .int) :: ([])
def wsX2_secretBy : List Cond := .code yX2_secretBy cX2_secretBy 5 (some .int) :: ([.fieldLink RX2 45 "WrongWord$Gate" "words" "I", .static yX7_rest, .initialized RX7, .code yX7_rest cX7_rest 2 (some .int)] ++ wsX20)
def wsX2_secretIn : List Cond := .code yX2_secretIn cX2_secretIn 2 (some .int) :: ([.fieldLink RX2 24 "WrongWord$Gate" "now" "LWrongWord$Moment;", .fieldLink RX2 55 "WrongWord$Moment" "start" "I", .fieldLink RX2 38 "WrongWord$Gate" "step" "I", .fieldLink RX2 42 "WrongWord$Gate" "shrove" "I", .fieldLink RX2 58 "WrongWord$Moment" "night" "I", .methodLink RX2 61 yX2_secretBy, .instanceMethod yX2_secretBy, .selects RX2 yX2_secretBy yX2_secretBy, .initialized RX2, .code yX2_secretBy cX2_secretBy 5 (some .int), .fieldLink RX2 45 "WrongWord$Gate" "words" "I", .static yX7_rest, .initialized RX7, .code yX7_rest cX7_rest 2 (some .int)] ++ wsX20 ++ wsX40)
def wsX2_distance : List Cond := .code yX2_distance cX2_distance 5 (some .int) :: ([.fieldLink RX2 9 "WrongWord$Gate" "letters" "[I"] ++ wsX20)
def wsX2_lips : List Cond := .code yX2_lips cX2_lips 5 (some .int) :: ([.fieldLink RX2 9 "WrongWord$Gate" "letters" "[I"] ++ wsX20)
def wsX2_guardOn : List Cond := .code yX2_guardOn cX2_guardOn 3 (some .int) :: ([.fieldLink RX2 48 "WrongWord$Gate" "guards" "I", .static yX7_rest, .initialized RX7, .code yX7_rest cX7_rest 2 (some .int)] ++ wsX20)
def wsX2_isThere : List Cond := .code yX2_isThere cX2_isThere 2 (some .boolean) :: ([.fieldLink RX2 24 "WrongWord$Gate" "now" "LWrongWord$Moment;", .fieldLink RX2 65 "WrongWord$Moment" "there" "I"] ++ wsX20 ++ wsX40)
def wsX2_wouldTake : List Cond := .code yX2_wouldTake cX2_wouldTake 5 (some .boolean) :: ([.methodLink RX2 68 yX2_distance, .instanceMethod yX2_distance, .selects RX2 yX2_distance yX2_distance, .initialized RX2, .code yX2_distance cX2_distance 5 (some .int), .fieldLink RX2 9 "WrongWord$Gate" "letters" "[I", .methodLink RX2 71 yX2_lips, .instanceMethod yX2_lips, .selects RX2 yX2_lips yX2_lips, .code yX2_lips cX2_lips 5 (some .int)] ++ wsX20)
def wsX2_catchesIf_r1 : List Cond := [Cond.fieldLink RX2 15 "WrongWord$Gate" "kinds" "[I", Cond.methodLink RX2 74 yX2_guardOn, Cond.instanceMethod yX2_guardOn, Cond.selects RX2 yX2_guardOn yX2_guardOn, Cond.initialized RX2, Cond.code yX2_guardOn cX2_guardOn 3 (some .int), Cond.fieldLink RX2 48 "WrongWord$Gate" "guards" "I", Cond.static yX7_rest, Cond.initialized RX7, Cond.code yX7_rest cX7_rest 2 (some .int), Cond.methodLink RX2 77 yX2_isThere, Cond.instanceMethod yX2_isThere, Cond.selects RX2 yX2_isThere yX2_isThere, Cond.code yX2_isThere cX2_isThere 2 (some .boolean), Cond.fieldLink RX2 24 "WrongWord$Gate" "now" "LWrongWord$Moment;", Cond.fieldLink RX2 65 "WrongWord$Moment" "there" "I", Cond.methodLink RX2 81 yX2_wouldTake, Cond.instanceMethod yX2_wouldTake, Cond.selects RX2 yX2_wouldTake yX2_wouldTake, Cond.code yX2_wouldTake cX2_wouldTake 5 (some .boolean), Cond.methodLink RX2 68 yX2_distance, Cond.instanceMethod yX2_distance, Cond.selects RX2 yX2_distance yX2_distance, Cond.code yX2_distance cX2_distance 5 (some .int)]
def wsX2_catchesIf_r2 : List Cond := [Cond.fieldLink RX2 9 "WrongWord$Gate" "letters" "[I", Cond.methodLink RX2 71 yX2_lips, Cond.instanceMethod yX2_lips, Cond.selects RX2 yX2_lips yX2_lips, Cond.code yX2_lips cX2_lips 5 (some .int)]
def wsX2_catchesIf : List Cond := .code yX2_catchesIf cX2_catchesIf 6 (some .boolean) :: ((wsX2_catchesIf_r1 ++ wsX2_catchesIf_r2) ++ wsX20 ++ wsX40)
def wsX2_catches_r1 : List Cond := [Cond.fieldLink RX2 24 "WrongWord$Gate" "now" "LWrongWord$Moment;", Cond.fieldLink RX2 58 "WrongWord$Moment" "night" "I", Cond.methodLink RX2 85 yX2_secretIn, Cond.instanceMethod yX2_secretIn, Cond.selects RX2 yX2_secretIn yX2_secretIn, Cond.initialized RX2, Cond.code yX2_secretIn cX2_secretIn 2 (some .int), Cond.fieldLink RX2 55 "WrongWord$Moment" "start" "I", Cond.fieldLink RX2 38 "WrongWord$Gate" "step" "I", Cond.fieldLink RX2 42 "WrongWord$Gate" "shrove" "I", Cond.methodLink RX2 61 yX2_secretBy, Cond.instanceMethod yX2_secretBy, Cond.selects RX2 yX2_secretBy yX2_secretBy, Cond.code yX2_secretBy cX2_secretBy 5 (some .int), Cond.fieldLink RX2 45 "WrongWord$Gate" "words" "I", Cond.static yX7_rest, Cond.initialized RX7, Cond.code yX7_rest cX7_rest 2 (some .int), Cond.methodLink RX2 89 yX2_catchesIf, Cond.instanceMethod yX2_catchesIf, Cond.selects RX2 yX2_catchesIf yX2_catchesIf, Cond.code yX2_catchesIf cX2_catchesIf 6 (some .boolean), Cond.fieldLink RX2 15 "WrongWord$Gate" "kinds" "[I", Cond.methodLink RX2 74 yX2_guardOn]
def wsX2_catches_r2 : List Cond := [Cond.instanceMethod yX2_guardOn, Cond.selects RX2 yX2_guardOn yX2_guardOn, Cond.code yX2_guardOn cX2_guardOn 3 (some .int), Cond.fieldLink RX2 48 "WrongWord$Gate" "guards" "I", Cond.methodLink RX2 77 yX2_isThere, Cond.instanceMethod yX2_isThere, Cond.selects RX2 yX2_isThere yX2_isThere, Cond.code yX2_isThere cX2_isThere 2 (some .boolean), Cond.fieldLink RX2 65 "WrongWord$Moment" "there" "I", Cond.methodLink RX2 81 yX2_wouldTake, Cond.instanceMethod yX2_wouldTake, Cond.selects RX2 yX2_wouldTake yX2_wouldTake, Cond.code yX2_wouldTake cX2_wouldTake 5 (some .boolean), Cond.methodLink RX2 68 yX2_distance, Cond.instanceMethod yX2_distance, Cond.selects RX2 yX2_distance yX2_distance, Cond.code yX2_distance cX2_distance 5 (some .int), Cond.fieldLink RX2 9 "WrongWord$Gate" "letters" "[I", Cond.methodLink RX2 71 yX2_lips, Cond.instanceMethod yX2_lips, Cond.selects RX2 yX2_lips yX2_lips, Cond.code yX2_lips cX2_lips 5 (some .int)]
def wsX2_catches : List Cond := .code yX2_catches cX2_catches 4 (some .boolean) :: ((wsX2_catches_r1 ++ wsX2_catches_r2) ++ wsX20 ++ wsX40)
def wsX7_bit : List Cond := .code yX7_bit cX7_bit 1 (some .int) :: ([])
def wsX2_hoursOf : List Cond := .code yX2_hoursOf cX2_hoursOf 4 (some .int) :: ([.fieldLink RX2 24 "WrongWord$Gate" "now" "LWrongWord$Moment;", .fieldLink RX2 58 "WrongWord$Moment" "night" "I", .methodLink RX2 74 yX2_guardOn, .instanceMethod yX2_guardOn, .selects RX2 yX2_guardOn yX2_guardOn, .initialized RX2, .code yX2_guardOn cX2_guardOn 3 (some .int), .fieldLink RX2 48 "WrongWord$Gate" "guards" "I", .static yX7_rest, .initialized RX7, .code yX7_rest cX7_rest 2 (some .int), .static yX7_bit, .code yX7_bit cX7_bit 1 (some .int)] ++ wsX20 ++ wsX40)
def wsX2_wordsIn_r1 : List Cond := [Cond.fieldLink RX2 45 "WrongWord$Gate" "words" "I", Cond.methodLink RX2 96 yX2_catches, Cond.instanceMethod yX2_catches, Cond.selects RX2 yX2_catches yX2_catches, Cond.initialized RX2, Cond.code yX2_catches cX2_catches 4 (some .boolean), Cond.fieldLink RX2 24 "WrongWord$Gate" "now" "LWrongWord$Moment;", Cond.fieldLink RX2 58 "WrongWord$Moment" "night" "I", Cond.methodLink RX2 85 yX2_secretIn, Cond.instanceMethod yX2_secretIn, Cond.selects RX2 yX2_secretIn yX2_secretIn, Cond.code yX2_secretIn cX2_secretIn 2 (some .int), Cond.fieldLink RX2 55 "WrongWord$Moment" "start" "I", Cond.fieldLink RX2 38 "WrongWord$Gate" "step" "I", Cond.fieldLink RX2 42 "WrongWord$Gate" "shrove" "I", Cond.methodLink RX2 61 yX2_secretBy, Cond.instanceMethod yX2_secretBy, Cond.selects RX2 yX2_secretBy yX2_secretBy, Cond.code yX2_secretBy cX2_secretBy 5 (some .int), Cond.static yX7_rest, Cond.initialized RX7, Cond.code yX7_rest cX7_rest 2 (some .int), Cond.methodLink RX2 89 yX2_catchesIf, Cond.instanceMethod yX2_catchesIf]
def wsX2_wordsIn_r2 : List Cond := [Cond.selects RX2 yX2_catchesIf yX2_catchesIf, Cond.code yX2_catchesIf cX2_catchesIf 6 (some .boolean), Cond.fieldLink RX2 15 "WrongWord$Gate" "kinds" "[I", Cond.methodLink RX2 74 yX2_guardOn, Cond.instanceMethod yX2_guardOn, Cond.selects RX2 yX2_guardOn yX2_guardOn, Cond.code yX2_guardOn cX2_guardOn 3 (some .int), Cond.fieldLink RX2 48 "WrongWord$Gate" "guards" "I", Cond.methodLink RX2 77 yX2_isThere, Cond.instanceMethod yX2_isThere, Cond.selects RX2 yX2_isThere yX2_isThere, Cond.code yX2_isThere cX2_isThere 2 (some .boolean), Cond.fieldLink RX2 65 "WrongWord$Moment" "there" "I", Cond.methodLink RX2 81 yX2_wouldTake, Cond.instanceMethod yX2_wouldTake, Cond.selects RX2 yX2_wouldTake yX2_wouldTake, Cond.code yX2_wouldTake cX2_wouldTake 5 (some .boolean), Cond.methodLink RX2 68 yX2_distance, Cond.instanceMethod yX2_distance, Cond.selects RX2 yX2_distance yX2_distance, Cond.code yX2_distance cX2_distance 5 (some .int), Cond.fieldLink RX2 9 "WrongWord$Gate" "letters" "[I", Cond.methodLink RX2 71 yX2_lips, Cond.instanceMethod yX2_lips]
def wsX2_wordsIn_r3 : List Cond := [Cond.selects RX2 yX2_lips yX2_lips, Cond.code yX2_lips cX2_lips 5 (some .int), Cond.static yX7_bit, Cond.code yX7_bit cX7_bit 1 (some .int)]
def wsX2_wordsIn : List Cond := .code yX2_wordsIn cX2_wordsIn 5 (some .int) :: ((wsX2_wordsIn_r1 ++ (wsX2_wordsIn_r2 ++ wsX2_wordsIn_r3)) ++ wsX20 ++ wsX40)
def wsX2_hoursOpen_r1 : List Cond := [Cond.methodLink RX2 100 yX2_wordsIn, Cond.instanceMethod yX2_wordsIn, Cond.selects RX2 yX2_wordsIn yX2_wordsIn, Cond.initialized RX2, Cond.code yX2_wordsIn cX2_wordsIn 5 (some .int), Cond.fieldLink RX2 45 "WrongWord$Gate" "words" "I", Cond.methodLink RX2 96 yX2_catches, Cond.instanceMethod yX2_catches, Cond.selects RX2 yX2_catches yX2_catches, Cond.code yX2_catches cX2_catches 4 (some .boolean), Cond.fieldLink RX2 24 "WrongWord$Gate" "now" "LWrongWord$Moment;", Cond.fieldLink RX2 58 "WrongWord$Moment" "night" "I", Cond.methodLink RX2 85 yX2_secretIn, Cond.instanceMethod yX2_secretIn, Cond.selects RX2 yX2_secretIn yX2_secretIn, Cond.code yX2_secretIn cX2_secretIn 2 (some .int), Cond.fieldLink RX2 55 "WrongWord$Moment" "start" "I", Cond.fieldLink RX2 38 "WrongWord$Gate" "step" "I", Cond.fieldLink RX2 42 "WrongWord$Gate" "shrove" "I", Cond.methodLink RX2 61 yX2_secretBy, Cond.instanceMethod yX2_secretBy, Cond.selects RX2 yX2_secretBy yX2_secretBy, Cond.code yX2_secretBy cX2_secretBy 5 (some .int), Cond.static yX7_rest]
def wsX2_hoursOpen_r2 : List Cond := [Cond.initialized RX7, Cond.code yX7_rest cX7_rest 2 (some .int), Cond.methodLink RX2 89 yX2_catchesIf, Cond.instanceMethod yX2_catchesIf, Cond.selects RX2 yX2_catchesIf yX2_catchesIf, Cond.code yX2_catchesIf cX2_catchesIf 6 (some .boolean), Cond.fieldLink RX2 15 "WrongWord$Gate" "kinds" "[I", Cond.methodLink RX2 74 yX2_guardOn, Cond.instanceMethod yX2_guardOn, Cond.selects RX2 yX2_guardOn yX2_guardOn, Cond.code yX2_guardOn cX2_guardOn 3 (some .int), Cond.fieldLink RX2 48 "WrongWord$Gate" "guards" "I", Cond.methodLink RX2 77 yX2_isThere, Cond.instanceMethod yX2_isThere, Cond.selects RX2 yX2_isThere yX2_isThere, Cond.code yX2_isThere cX2_isThere 2 (some .boolean), Cond.fieldLink RX2 65 "WrongWord$Moment" "there" "I", Cond.methodLink RX2 81 yX2_wouldTake, Cond.instanceMethod yX2_wouldTake, Cond.selects RX2 yX2_wouldTake yX2_wouldTake, Cond.code yX2_wouldTake cX2_wouldTake 5 (some .boolean), Cond.methodLink RX2 68 yX2_distance, Cond.instanceMethod yX2_distance, Cond.selects RX2 yX2_distance yX2_distance]
def wsX2_hoursOpen_r3 : List Cond := [Cond.code yX2_distance cX2_distance 5 (some .int), Cond.fieldLink RX2 9 "WrongWord$Gate" "letters" "[I", Cond.methodLink RX2 71 yX2_lips, Cond.instanceMethod yX2_lips, Cond.selects RX2 yX2_lips yX2_lips, Cond.code yX2_lips cX2_lips 5 (some .int), Cond.static yX7_bit, Cond.code yX7_bit cX7_bit 1 (some .int)]
def wsX2_hoursOpen : List Cond := .code yX2_hoursOpen cX2_hoursOpen 5 (some .int) :: ((wsX2_hoursOpen_r1 ++ (wsX2_hoursOpen_r2 ++ wsX2_hoursOpen_r3)) ++ wsX20 ++ wsX40)
def wsX2_nightsUntil : List Cond := .code yX2_nightsUntil cX2_nightsUntil 3 (some .int) :: ([.constant RX2 103 (-1000000), .methodLink RX2 85 yX2_secretIn, .instanceMethod yX2_secretIn, .selects RX2 yX2_secretIn yX2_secretIn, .initialized RX2, .code yX2_secretIn cX2_secretIn 2 (some .int), .fieldLink RX2 24 "WrongWord$Gate" "now" "LWrongWord$Moment;", .fieldLink RX2 55 "WrongWord$Moment" "start" "I", .fieldLink RX2 38 "WrongWord$Gate" "step" "I", .fieldLink RX2 42 "WrongWord$Gate" "shrove" "I", .fieldLink RX2 58 "WrongWord$Moment" "night" "I", .methodLink RX2 61 yX2_secretBy, .instanceMethod yX2_secretBy, .selects RX2 yX2_secretBy yX2_secretBy, .code yX2_secretBy cX2_secretBy 5 (some .int), .fieldLink RX2 45 "WrongWord$Gate" "words" "I", .static yX7_rest, .initialized RX7, .code yX7_rest cX7_rest 2 (some .int)] ++ wsX20 ++ wsX40)
def wsX2_hourIn_r1 : List Cond := [Cond.constant RX2 103 (-1000000), Cond.methodLink RX2 96 yX2_catches, Cond.instanceMethod yX2_catches, Cond.selects RX2 yX2_catches yX2_catches, Cond.initialized RX2, Cond.code yX2_catches cX2_catches 4 (some .boolean), Cond.fieldLink RX2 24 "WrongWord$Gate" "now" "LWrongWord$Moment;", Cond.fieldLink RX2 58 "WrongWord$Moment" "night" "I", Cond.methodLink RX2 85 yX2_secretIn, Cond.instanceMethod yX2_secretIn, Cond.selects RX2 yX2_secretIn yX2_secretIn, Cond.code yX2_secretIn cX2_secretIn 2 (some .int), Cond.fieldLink RX2 55 "WrongWord$Moment" "start" "I", Cond.fieldLink RX2 38 "WrongWord$Gate" "step" "I", Cond.fieldLink RX2 42 "WrongWord$Gate" "shrove" "I", Cond.methodLink RX2 61 yX2_secretBy, Cond.instanceMethod yX2_secretBy, Cond.selects RX2 yX2_secretBy yX2_secretBy, Cond.code yX2_secretBy cX2_secretBy 5 (some .int), Cond.fieldLink RX2 45 "WrongWord$Gate" "words" "I", Cond.static yX7_rest, Cond.initialized RX7, Cond.code yX7_rest cX7_rest 2 (some .int), Cond.methodLink RX2 89 yX2_catchesIf]
def wsX2_hourIn_r2 : List Cond := [Cond.instanceMethod yX2_catchesIf, Cond.selects RX2 yX2_catchesIf yX2_catchesIf, Cond.code yX2_catchesIf cX2_catchesIf 6 (some .boolean), Cond.fieldLink RX2 15 "WrongWord$Gate" "kinds" "[I", Cond.methodLink RX2 74 yX2_guardOn, Cond.instanceMethod yX2_guardOn, Cond.selects RX2 yX2_guardOn yX2_guardOn, Cond.code yX2_guardOn cX2_guardOn 3 (some .int), Cond.fieldLink RX2 48 "WrongWord$Gate" "guards" "I", Cond.methodLink RX2 77 yX2_isThere, Cond.instanceMethod yX2_isThere, Cond.selects RX2 yX2_isThere yX2_isThere, Cond.code yX2_isThere cX2_isThere 2 (some .boolean), Cond.fieldLink RX2 65 "WrongWord$Moment" "there" "I", Cond.methodLink RX2 81 yX2_wouldTake, Cond.instanceMethod yX2_wouldTake, Cond.selects RX2 yX2_wouldTake yX2_wouldTake, Cond.code yX2_wouldTake cX2_wouldTake 5 (some .boolean), Cond.methodLink RX2 68 yX2_distance, Cond.instanceMethod yX2_distance, Cond.selects RX2 yX2_distance yX2_distance, Cond.code yX2_distance cX2_distance 5 (some .int), Cond.fieldLink RX2 9 "WrongWord$Gate" "letters" "[I", Cond.methodLink RX2 71 yX2_lips]
def wsX2_hourIn_r3 : List Cond := [Cond.instanceMethod yX2_lips, Cond.selects RX2 yX2_lips yX2_lips, Cond.code yX2_lips cX2_lips 5 (some .int)]
def wsX2_hourIn : List Cond := .code yX2_hourIn cX2_hourIn 4 (some .int) :: ((wsX2_hourIn_r1 ++ (wsX2_hourIn_r2 ++ wsX2_hourIn_r3)) ++ wsX20 ++ wsX40)
def wsX2_guardsAgainst_r1 : List Cond := [Cond.fieldLink RX2 24 "WrongWord$Gate" "now" "LWrongWord$Moment;", Cond.fieldLink RX2 58 "WrongWord$Moment" "night" "I", Cond.methodLink RX2 100 yX2_wordsIn, Cond.instanceMethod yX2_wordsIn, Cond.selects RX2 yX2_wordsIn yX2_wordsIn, Cond.initialized RX2, Cond.code yX2_wordsIn cX2_wordsIn 5 (some .int), Cond.fieldLink RX2 45 "WrongWord$Gate" "words" "I", Cond.methodLink RX2 96 yX2_catches, Cond.instanceMethod yX2_catches, Cond.selects RX2 yX2_catches yX2_catches, Cond.code yX2_catches cX2_catches 4 (some .boolean), Cond.methodLink RX2 85 yX2_secretIn, Cond.instanceMethod yX2_secretIn, Cond.selects RX2 yX2_secretIn yX2_secretIn, Cond.code yX2_secretIn cX2_secretIn 2 (some .int), Cond.fieldLink RX2 55 "WrongWord$Moment" "start" "I", Cond.fieldLink RX2 38 "WrongWord$Gate" "step" "I", Cond.fieldLink RX2 42 "WrongWord$Gate" "shrove" "I", Cond.methodLink RX2 61 yX2_secretBy, Cond.instanceMethod yX2_secretBy, Cond.selects RX2 yX2_secretBy yX2_secretBy, Cond.code yX2_secretBy cX2_secretBy 5 (some .int), Cond.static yX7_rest]
def wsX2_guardsAgainst_r2 : List Cond := [Cond.initialized RX7, Cond.code yX7_rest cX7_rest 2 (some .int), Cond.methodLink RX2 89 yX2_catchesIf, Cond.instanceMethod yX2_catchesIf, Cond.selects RX2 yX2_catchesIf yX2_catchesIf, Cond.code yX2_catchesIf cX2_catchesIf 6 (some .boolean), Cond.fieldLink RX2 15 "WrongWord$Gate" "kinds" "[I", Cond.methodLink RX2 74 yX2_guardOn, Cond.instanceMethod yX2_guardOn, Cond.selects RX2 yX2_guardOn yX2_guardOn, Cond.code yX2_guardOn cX2_guardOn 3 (some .int), Cond.fieldLink RX2 48 "WrongWord$Gate" "guards" "I", Cond.methodLink RX2 77 yX2_isThere, Cond.instanceMethod yX2_isThere, Cond.selects RX2 yX2_isThere yX2_isThere, Cond.code yX2_isThere cX2_isThere 2 (some .boolean), Cond.fieldLink RX2 65 "WrongWord$Moment" "there" "I", Cond.methodLink RX2 81 yX2_wouldTake, Cond.instanceMethod yX2_wouldTake, Cond.selects RX2 yX2_wouldTake yX2_wouldTake, Cond.code yX2_wouldTake cX2_wouldTake 5 (some .boolean), Cond.methodLink RX2 68 yX2_distance, Cond.instanceMethod yX2_distance, Cond.selects RX2 yX2_distance yX2_distance]
def wsX2_guardsAgainst_r3 : List Cond := [Cond.code yX2_distance cX2_distance 5 (some .int), Cond.fieldLink RX2 9 "WrongWord$Gate" "letters" "[I", Cond.methodLink RX2 71 yX2_lips, Cond.instanceMethod yX2_lips, Cond.selects RX2 yX2_lips yX2_lips, Cond.code yX2_lips cX2_lips 5 (some .int), Cond.static yX7_bit, Cond.code yX7_bit cX7_bit 1 (some .int)]
def wsX2_guardsAgainst : List Cond := .code yX2_guardsAgainst cX2_guardsAgainst 5 (some .int) :: ((wsX2_guardsAgainst_r1 ++ (wsX2_guardsAgainst_r2 ++ wsX2_guardsAgainst_r3)) ++ wsX20 ++ wsX40)
def wsX2_feeOf : List Cond := .code yX2_feeOf cX2_feeOf 4 (some .int) :: ([.fieldLink RX2 48 "WrongWord$Gate" "guards" "I", .fieldLink RX2 18 "WrongWord$Gate" "fees" "[I"] ++ wsX20)
def wsX2_nearestTo : List Cond := .code yX2_nearestTo cX2_nearestTo 5 (some .int) :: ([.constant RX2 103 (-1000000), .fieldLink RX2 45 "WrongWord$Gate" "words" "I", .methodLink RX2 68 yX2_distance, .instanceMethod yX2_distance, .selects RX2 yX2_distance yX2_distance, .initialized RX2, .code yX2_distance cX2_distance 5 (some .int), .fieldLink RX2 9 "WrongWord$Gate" "letters" "[I"] ++ wsX20)
def wsX3_init : List Cond := .code yX3_init cX3_init 1 none :: ([.methodLink RX3 3 objectInit, .instanceMethod objectInit, .code objectInit ⟨#[0xb1]⟩ 1 none, .arrayClass .int, .fieldLink RX3 9 "WrongWord$Guesses" "catching" "[I", .fieldLink RX3 15 "WrongWord$Guesses" "menFor" "[I"] ++ wsX30)
def wsX3_agreesWithTries_r1 : List Cond := [Cond.fieldLink RX3 32 "WrongWord$Gate" "now" "LWrongWord$Moment;", Cond.fieldLink RX3 36 "WrongWord$Moment" "tries" "I", Cond.fieldLink RX3 41 "WrongWord$Moment" "triedGuard" "[I", Cond.fieldLink RX3 44 "WrongWord$Gate" "guards" "I", Cond.fieldLink RX3 47 "WrongWord$Gate" "kinds" "[I", Cond.fieldLink RX3 50 "WrongWord$Moment" "triedWord" "[I", Cond.fieldLink RX3 53 "WrongWord$Moment" "night" "I", Cond.fieldLink RX3 60 "WrongWord$Moment" "triedTaken" "[I", Cond.methodLink RX3 56 yX2_wouldTake, Cond.instanceMethod yX2_wouldTake, Cond.selects RX2 yX2_wouldTake yX2_wouldTake, Cond.initialized RX2, Cond.code yX2_wouldTake cX2_wouldTake 5 (some .boolean), Cond.methodLink RX2 68 yX2_distance, Cond.instanceMethod yX2_distance, Cond.selects RX2 yX2_distance yX2_distance, Cond.code yX2_distance cX2_distance 5 (some .int), Cond.fieldLink RX2 9 "WrongWord$Gate" "letters" "[I", Cond.methodLink RX2 71 yX2_lips, Cond.instanceMethod yX2_lips, Cond.selects RX2 yX2_lips yX2_lips, Cond.code yX2_lips cX2_lips 5 (some .int), Cond.static yX7_bit, Cond.initialized RX7]
def wsX3_agreesWithTries_r2 : List Cond := [Cond.code yX7_bit cX7_bit 1 (some .int)]
def wsX3_agreesWithTries : List Cond := .code yX3_agreesWithTries cX3_agreesWithTries 6 (some .boolean) :: ((wsX3_agreesWithTries_r1 ++ wsX3_agreesWithTries_r2) ++ wsX20 ++ wsX40)
def wsX3_agreeing_r1 : List Cond := [Cond.fieldLink RX3 18 "WrongWord$Gate" "words" "I", Cond.methodLink RX3 24 yX3_agreesWithTries, Cond.static yX3_agreesWithTries, Cond.initialized RX3, Cond.code yX3_agreesWithTries cX3_agreesWithTries 6 (some .boolean), Cond.fieldLink RX3 32 "WrongWord$Gate" "now" "LWrongWord$Moment;", Cond.fieldLink RX3 36 "WrongWord$Moment" "tries" "I", Cond.fieldLink RX3 41 "WrongWord$Moment" "triedGuard" "[I", Cond.fieldLink RX3 44 "WrongWord$Gate" "guards" "I", Cond.fieldLink RX3 47 "WrongWord$Gate" "kinds" "[I", Cond.fieldLink RX3 50 "WrongWord$Moment" "triedWord" "[I", Cond.fieldLink RX3 53 "WrongWord$Moment" "night" "I", Cond.fieldLink RX3 60 "WrongWord$Moment" "triedTaken" "[I", Cond.methodLink RX3 56 yX2_wouldTake, Cond.instanceMethod yX2_wouldTake, Cond.selects RX2 yX2_wouldTake yX2_wouldTake, Cond.initialized RX2, Cond.code yX2_wouldTake cX2_wouldTake 5 (some .boolean), Cond.methodLink RX2 68 yX2_distance, Cond.instanceMethod yX2_distance, Cond.selects RX2 yX2_distance yX2_distance, Cond.code yX2_distance cX2_distance 5 (some .int), Cond.fieldLink RX2 9 "WrongWord$Gate" "letters" "[I", Cond.methodLink RX2 71 yX2_lips]
def wsX3_agreeing_r2 : List Cond := [Cond.instanceMethod yX2_lips, Cond.selects RX2 yX2_lips yX2_lips, Cond.code yX2_lips cX2_lips 5 (some .int), Cond.static yX7_bit, Cond.initialized RX7, Cond.code yX7_bit cX7_bit 1 (some .int)]
def wsX3_agreeing : List Cond := .code yX3_agreeing cX3_agreeing 3 (some .int) :: ((wsX3_agreeing_r1 ++ wsX3_agreeing_r2) ++ wsX20 ++ wsX40)
def wsX3_secretsCatching_r1 : List Cond := [Cond.fieldLink RX3 18 "WrongWord$Gate" "words" "I", Cond.fieldLink RX3 32 "WrongWord$Gate" "now" "LWrongWord$Moment;", Cond.fieldLink RX3 53 "WrongWord$Moment" "night" "I", Cond.methodLink RX3 63 yX2_catchesIf, Cond.instanceMethod yX2_catchesIf, Cond.selects RX2 yX2_catchesIf yX2_catchesIf, Cond.initialized RX2, Cond.code yX2_catchesIf cX2_catchesIf 6 (some .boolean), Cond.fieldLink RX2 15 "WrongWord$Gate" "kinds" "[I", Cond.methodLink RX2 74 yX2_guardOn, Cond.instanceMethod yX2_guardOn, Cond.selects RX2 yX2_guardOn yX2_guardOn, Cond.code yX2_guardOn cX2_guardOn 3 (some .int), Cond.fieldLink RX2 48 "WrongWord$Gate" "guards" "I", Cond.static yX7_rest, Cond.initialized RX7, Cond.code yX7_rest cX7_rest 2 (some .int), Cond.methodLink RX2 77 yX2_isThere, Cond.instanceMethod yX2_isThere, Cond.selects RX2 yX2_isThere yX2_isThere, Cond.code yX2_isThere cX2_isThere 2 (some .boolean), Cond.fieldLink RX2 24 "WrongWord$Gate" "now" "LWrongWord$Moment;", Cond.fieldLink RX2 65 "WrongWord$Moment" "there" "I", Cond.methodLink RX2 81 yX2_wouldTake]
def wsX3_secretsCatching_r2 : List Cond := [Cond.instanceMethod yX2_wouldTake, Cond.selects RX2 yX2_wouldTake yX2_wouldTake, Cond.code yX2_wouldTake cX2_wouldTake 5 (some .boolean), Cond.methodLink RX2 68 yX2_distance, Cond.instanceMethod yX2_distance, Cond.selects RX2 yX2_distance yX2_distance, Cond.code yX2_distance cX2_distance 5 (some .int), Cond.fieldLink RX2 9 "WrongWord$Gate" "letters" "[I", Cond.methodLink RX2 71 yX2_lips, Cond.instanceMethod yX2_lips, Cond.selects RX2 yX2_lips yX2_lips, Cond.code yX2_lips cX2_lips 5 (some .int), Cond.static yX7_bit, Cond.code yX7_bit cX7_bit 1 (some .int)]
def wsX3_secretsCatching : List Cond := .code yX3_secretsCatching cX3_secretsCatching 5 (some .int) :: ((wsX3_secretsCatching_r1 ++ wsX3_secretsCatching_r2) ++ wsX20 ++ wsX40)
def wsJ6_bitCount_0f7a4 : List Cond := .code yJ6_bitCount_0f7a4 cJ6_bitCount_0f7a4 1 (some .int) :: ([.constant RJ6 265 (1431655765), .constant RJ6 266 (858993459), .constant RJ6 267 (252645135)])
def wsX3_leftAtWorst_r1 : List Cond := [Cond.methodLink RX3 76 Lib.Math.max.name, Cond.static Lib.Math.max.name, Cond.initialized "java/lang/Math", Cond.code Lib.Math.max.name Lib.Math.max.code 2 (some .int), Cond.methodLink RX3 66 yX3_secretsCatching, Cond.static yX3_secretsCatching, Cond.initialized RX3, Cond.code yX3_secretsCatching cX3_secretsCatching 5 (some .int), Cond.fieldLink RX3 18 "WrongWord$Gate" "words" "I", Cond.fieldLink RX3 32 "WrongWord$Gate" "now" "LWrongWord$Moment;", Cond.fieldLink RX3 53 "WrongWord$Moment" "night" "I", Cond.methodLink RX3 63 yX2_catchesIf, Cond.instanceMethod yX2_catchesIf, Cond.selects RX2 yX2_catchesIf yX2_catchesIf, Cond.initialized RX2, Cond.code yX2_catchesIf cX2_catchesIf 6 (some .boolean), Cond.fieldLink RX2 15 "WrongWord$Gate" "kinds" "[I", Cond.methodLink RX2 74 yX2_guardOn, Cond.instanceMethod yX2_guardOn, Cond.selects RX2 yX2_guardOn yX2_guardOn, Cond.code yX2_guardOn cX2_guardOn 3 (some .int), Cond.fieldLink RX2 48 "WrongWord$Gate" "guards" "I", Cond.static yX7_rest, Cond.initialized RX7]
def wsX3_leftAtWorst_r2 : List Cond := [Cond.code yX7_rest cX7_rest 2 (some .int), Cond.methodLink RX2 77 yX2_isThere, Cond.instanceMethod yX2_isThere, Cond.selects RX2 yX2_isThere yX2_isThere, Cond.code yX2_isThere cX2_isThere 2 (some .boolean), Cond.fieldLink RX2 24 "WrongWord$Gate" "now" "LWrongWord$Moment;", Cond.fieldLink RX2 65 "WrongWord$Moment" "there" "I", Cond.methodLink RX2 81 yX2_wouldTake, Cond.instanceMethod yX2_wouldTake, Cond.selects RX2 yX2_wouldTake yX2_wouldTake, Cond.code yX2_wouldTake cX2_wouldTake 5 (some .boolean), Cond.methodLink RX2 68 yX2_distance, Cond.instanceMethod yX2_distance, Cond.selects RX2 yX2_distance yX2_distance, Cond.code yX2_distance cX2_distance 5 (some .int), Cond.fieldLink RX2 9 "WrongWord$Gate" "letters" "[I", Cond.methodLink RX2 71 yX2_lips, Cond.instanceMethod yX2_lips, Cond.selects RX2 yX2_lips yX2_lips, Cond.code yX2_lips cX2_lips 5 (some .int), Cond.static yX7_bit, Cond.code yX7_bit cX7_bit 1 (some .int), Cond.methodLink RX3 70 yJ6_bitCount_0f7a4, Cond.static yJ6_bitCount_0f7a4]
def wsX3_leftAtWorst_r3 : List Cond := [Cond.initialized RJ6, Cond.code yJ6_bitCount_0f7a4 cJ6_bitCount_0f7a4 1 (some .int), Cond.constant RJ6 265 (1431655765), Cond.constant RJ6 266 (858993459), Cond.constant RJ6 267 (252645135)]
def wsX3_leftAtWorst : List Cond := .code yX3_leftAtWorst cX3_leftAtWorst 4 (some .int) :: ((wsX3_leftAtWorst_r1 ++ (wsX3_leftAtWorst_r2 ++ wsX3_leftAtWorst_r3)) ++ wsX20 ++ wsX40)
def wsX3_bestTry_r1 : List Cond := [Cond.fieldLink RX3 18 "WrongWord$Gate" "words" "I", Cond.methodLink RX3 82 yX3_leftAtWorst, Cond.static yX3_leftAtWorst, Cond.initialized RX3, Cond.code yX3_leftAtWorst cX3_leftAtWorst 4 (some .int), Cond.methodLink RX3 76 Lib.Math.max.name, Cond.static Lib.Math.max.name, Cond.initialized "java/lang/Math", Cond.code Lib.Math.max.name Lib.Math.max.code 2 (some .int), Cond.methodLink RX3 66 yX3_secretsCatching, Cond.static yX3_secretsCatching, Cond.code yX3_secretsCatching cX3_secretsCatching 5 (some .int), Cond.fieldLink RX3 32 "WrongWord$Gate" "now" "LWrongWord$Moment;", Cond.fieldLink RX3 53 "WrongWord$Moment" "night" "I", Cond.methodLink RX3 63 yX2_catchesIf, Cond.instanceMethod yX2_catchesIf, Cond.selects RX2 yX2_catchesIf yX2_catchesIf, Cond.initialized RX2, Cond.code yX2_catchesIf cX2_catchesIf 6 (some .boolean), Cond.fieldLink RX2 15 "WrongWord$Gate" "kinds" "[I", Cond.methodLink RX2 74 yX2_guardOn, Cond.instanceMethod yX2_guardOn, Cond.selects RX2 yX2_guardOn yX2_guardOn, Cond.code yX2_guardOn cX2_guardOn 3 (some .int)]
def wsX3_bestTry_r2 : List Cond := [Cond.fieldLink RX2 48 "WrongWord$Gate" "guards" "I", Cond.static yX7_rest, Cond.initialized RX7, Cond.code yX7_rest cX7_rest 2 (some .int), Cond.methodLink RX2 77 yX2_isThere, Cond.instanceMethod yX2_isThere, Cond.selects RX2 yX2_isThere yX2_isThere, Cond.code yX2_isThere cX2_isThere 2 (some .boolean), Cond.fieldLink RX2 24 "WrongWord$Gate" "now" "LWrongWord$Moment;", Cond.fieldLink RX2 65 "WrongWord$Moment" "there" "I", Cond.methodLink RX2 81 yX2_wouldTake, Cond.instanceMethod yX2_wouldTake, Cond.selects RX2 yX2_wouldTake yX2_wouldTake, Cond.code yX2_wouldTake cX2_wouldTake 5 (some .boolean), Cond.methodLink RX2 68 yX2_distance, Cond.instanceMethod yX2_distance, Cond.selects RX2 yX2_distance yX2_distance, Cond.code yX2_distance cX2_distance 5 (some .int), Cond.fieldLink RX2 9 "WrongWord$Gate" "letters" "[I", Cond.methodLink RX2 71 yX2_lips, Cond.instanceMethod yX2_lips, Cond.selects RX2 yX2_lips yX2_lips, Cond.code yX2_lips cX2_lips 5 (some .int), Cond.static yX7_bit]
def wsX3_bestTry_r3 : List Cond := [Cond.code yX7_bit cX7_bit 1 (some .int), Cond.methodLink RX3 70 yJ6_bitCount_0f7a4, Cond.static yJ6_bitCount_0f7a4, Cond.initialized RJ6, Cond.code yJ6_bitCount_0f7a4 cJ6_bitCount_0f7a4 1 (some .int), Cond.constant RJ6 265 (1431655765), Cond.constant RJ6 266 (858993459), Cond.constant RJ6 267 (252645135)]
def wsX3_bestTry : List Cond := .code yX3_bestTry cX3_bestTry 6 (some .int) :: ((wsX3_bestTry_r1 ++ (wsX3_bestTry_r2 ++ wsX3_bestTry_r3)) ++ wsX20 ++ wsX40)
def wsX3_menToSplit : List Cond := .code yX3_menToSplit cX3_menToSplit 6 (some .int) :: ([.fieldLink RX3 9 "WrongWord$Guesses" "catching" "[I", .fieldLink RX3 15 "WrongWord$Guesses" "menFor" "[I", .methodLink RX3 76 Lib.Math.max.name, .static Lib.Math.max.name, .initialized "java/lang/Math", .code Lib.Math.max.name Lib.Math.max.code 2 (some .int), .methodLink RX3 89 Lib.Math.min.name, .static Lib.Math.min.name, .code Lib.Math.min.name Lib.Math.min.code 2 (some .int)] ++ wsX30)
def wsX3_fewestMen_r1 : List Cond := [Cond.fieldLink RX3 18 "WrongWord$Gate" "words" "I", Cond.fieldLink RX3 9 "WrongWord$Guesses" "catching" "[I", Cond.fieldLink RX3 15 "WrongWord$Guesses" "menFor" "[I", Cond.constant RX3 88 (-1000000), Cond.methodLink RX3 66 yX3_secretsCatching, Cond.static yX3_secretsCatching, Cond.initialized RX3, Cond.code yX3_secretsCatching cX3_secretsCatching 5 (some .int), Cond.fieldLink RX3 32 "WrongWord$Gate" "now" "LWrongWord$Moment;", Cond.fieldLink RX3 53 "WrongWord$Moment" "night" "I", Cond.methodLink RX3 63 yX2_catchesIf, Cond.instanceMethod yX2_catchesIf, Cond.selects RX2 yX2_catchesIf yX2_catchesIf, Cond.initialized RX2, Cond.code yX2_catchesIf cX2_catchesIf 6 (some .boolean), Cond.fieldLink RX2 15 "WrongWord$Gate" "kinds" "[I", Cond.methodLink RX2 74 yX2_guardOn, Cond.instanceMethod yX2_guardOn, Cond.selects RX2 yX2_guardOn yX2_guardOn, Cond.code yX2_guardOn cX2_guardOn 3 (some .int), Cond.fieldLink RX2 48 "WrongWord$Gate" "guards" "I", Cond.static yX7_rest, Cond.initialized RX7, Cond.code yX7_rest cX7_rest 2 (some .int)]
def wsX3_fewestMen_r2 : List Cond := [Cond.methodLink RX2 77 yX2_isThere, Cond.instanceMethod yX2_isThere, Cond.selects RX2 yX2_isThere yX2_isThere, Cond.code yX2_isThere cX2_isThere 2 (some .boolean), Cond.fieldLink RX2 24 "WrongWord$Gate" "now" "LWrongWord$Moment;", Cond.fieldLink RX2 65 "WrongWord$Moment" "there" "I", Cond.methodLink RX2 81 yX2_wouldTake, Cond.instanceMethod yX2_wouldTake, Cond.selects RX2 yX2_wouldTake yX2_wouldTake, Cond.code yX2_wouldTake cX2_wouldTake 5 (some .boolean), Cond.methodLink RX2 68 yX2_distance, Cond.instanceMethod yX2_distance, Cond.selects RX2 yX2_distance yX2_distance, Cond.code yX2_distance cX2_distance 5 (some .int), Cond.fieldLink RX2 9 "WrongWord$Gate" "letters" "[I", Cond.methodLink RX2 71 yX2_lips, Cond.instanceMethod yX2_lips, Cond.selects RX2 yX2_lips yX2_lips, Cond.code yX2_lips cX2_lips 5 (some .int), Cond.static yX7_bit, Cond.code yX7_bit cX7_bit 1 (some .int), Cond.methodLink RX3 70 yJ6_bitCount_0f7a4, Cond.static yJ6_bitCount_0f7a4, Cond.initialized RJ6]
def wsX3_fewestMen_r3 : List Cond := [Cond.code yJ6_bitCount_0f7a4 cJ6_bitCount_0f7a4 1 (some .int), Cond.constant RJ6 265 (1431655765), Cond.constant RJ6 266 (858993459), Cond.constant RJ6 267 (252645135), Cond.methodLink RX3 85 yX3_menToSplit, Cond.instanceMethod yX3_menToSplit, Cond.selects RX3 yX3_menToSplit yX3_menToSplit, Cond.code yX3_menToSplit cX3_menToSplit 6 (some .int), Cond.methodLink RX3 76 Lib.Math.max.name, Cond.static Lib.Math.max.name, Cond.initialized "java/lang/Math", Cond.code Lib.Math.max.name Lib.Math.max.code 2 (some .int), Cond.methodLink RX3 89 Lib.Math.min.name, Cond.static Lib.Math.min.name, Cond.code Lib.Math.min.name Lib.Math.min.code 2 (some .int)]
def wsX3_fewestMen : List Cond := .code yX3_fewestMen cX3_fewestMen 5 (some .int) :: ((wsX3_fewestMen_r1 ++ (wsX3_fewestMen_r2 ++ wsX3_fewestMen_r3)) ++ wsX20 ++ wsX30 ++ wsX40)
def wsX4_begin : List Cond := .code yX4_begin cX4_begin 3 none :: ([.fieldLink RX4 24 "WrongWord$Moment" "night" "I", .fieldLink RX4 28 "WrongWord$Moment" "there" "I", .fieldLink RX4 31 "WrongWord$Moment" "tries" "I", .fieldLink RX4 9 "WrongWord$Moment" "took" "[I"] ++ wsX40)
def wsX4_goBy : List Cond := .code yX4_goBy cX4_goBy 1 none :: ([.fieldLink RX4 24 "WrongWord$Moment" "night" "I", .fieldLink RX4 31 "WrongWord$Moment" "tries" "I"] ++ wsX40)
def wsX4_addTry : List Cond := .code yX4_addTry cX4_addTry 4 none :: ([.fieldLink RX4 31 "WrongWord$Moment" "tries" "I", .fieldLink RX4 15 "WrongWord$Moment" "triedWord" "[I", .fieldLink RX4 18 "WrongWord$Moment" "triedGuard" "[I", .fieldLink RX4 21 "WrongWord$Moment" "triedTaken" "[I", .fieldLink RX4 9 "WrongWord$Moment" "took" "[I", .static yX7_bit, .initialized RX7, .code yX7_bit cX7_bit 1 (some .int)] ++ wsX40)
def wsX4_tookInAll : List Cond := .code yX4_tookInAll cX4_tookInAll 3 (some .int) :: ([.fieldLink RX4 9 "WrongWord$Moment" "took" "[I"] ++ wsX40)
def wsX5_init : List Cond := .code yX5_init cX5_init 1 none :: ([.methodLink RX5 3 objectInit, .instanceMethod objectInit, .code objectInit ⟨#[0xb1]⟩ 1 none, .arrayClass .int, .fieldLink RX5 9 "WrongWord$Row" "items" "[I", .fieldLink RX5 15 "WrongWord$Row" "lane" "I"] ++ wsX50)
def wsX5_make : List Cond := .code yX5_make cX5_make 4 none :: ([.fieldLink RX5 15 "WrongWord$Row" "lane" "I", .fieldLink RX5 19 "WrongWord$Row" "size" "I", .fieldLink RX5 9 "WrongWord$Row" "items" "[I"] ++ wsX50)
def wsX5_reaches : List Cond := .code yX5_reaches cX5_reaches 3 (some .boolean) :: ([.fieldLink RX5 19 "WrongWord$Row" "size" "I"] ++ wsX50)
def wsX5_findingOf : List Cond := .code yX5_findingOf cX5_findingOf 3 (some .int) :: ([.fieldLink RX5 15 "WrongWord$Row" "lane" "I", .methodLink RX5 22 yX5_reaches, .instanceMethod yX5_reaches, .selects RX5 yX5_reaches yX5_reaches, .initialized RX5, .code yX5_reaches cX5_reaches 3 (some .boolean), .fieldLink RX5 19 "WrongWord$Row" "size" "I"] ++ wsX50)
def wsX5_put : List Cond := .code yX5_put cX5_put 3 (some .int) :: ([.fieldLink RX5 9 "WrongWord$Row" "items" "[I", .fieldLink RX5 15 "WrongWord$Row" "lane" "I"] ++ wsX50)
def wsX6_init_r1 : List Cond := [Cond.methodLink RX6 3 objectInit, Cond.instanceMethod objectInit, Cond.code objectInit ⟨#[0xb1]⟩ 1 none, Cond.arrayClass .int, Cond.fieldLink RX6 9 "WrongWord$Tape" "bytes" "[I", Cond.classLink RX6 15 RX2, Cond.instantiable RX2 8, Cond.initialized RX2, Cond.fieldLink RX6 18 "WrongWord$Tape" "draft" "LWrongWord$Gate;", Cond.instanceMethod yX2_init, Cond.code yX2_init cX2_init 1 none, Cond.methodLink RX2 3 objectInit, Cond.fieldLink RX2 9 "WrongWord$Gate" "letters" "[I", Cond.fieldLink RX2 15 "WrongWord$Gate" "kinds" "[I", Cond.fieldLink RX2 18 "WrongWord$Gate" "fees" "[I", Cond.classLink RX2 21 RX4, Cond.instantiable RX4 8, Cond.initialized RX4, Cond.fieldLink RX2 24 "WrongWord$Gate" "now" "LWrongWord$Moment;", Cond.instanceMethod yX4_init, Cond.code yX4_init cX4_init 1 none, Cond.methodLink RX4 3 objectInit, Cond.fieldLink RX4 9 "WrongWord$Moment" "took" "[I", Cond.fieldLink RX4 15 "WrongWord$Moment" "triedWord" "[I"]
def wsX6_init_r2 : List Cond := [Cond.fieldLink RX4 18 "WrongWord$Moment" "triedGuard" "[I", Cond.fieldLink RX4 21 "WrongWord$Moment" "triedTaken" "[I"]
def wsX6_init : List Cond := .code yX6_init cX6_init 1 none :: ((wsX6_init_r1 ++ wsX6_init_r2) ++ wsX60 ++ wsX20 ++ wsX40)
def wsX6_append : List Cond := .code yX6_append cX6_append 2 (some .boolean) :: ([.fieldLink RX6 22 "WrongWord$Tape" "length" "I", .fieldLink RX6 9 "WrongWord$Tape" "bytes" "[I"] ++ wsX60)
def wsX6_here : List Cond := .code yX6_here cX6_here 1 (some .int) :: ([.fieldLink RX6 26 "WrongWord$Tape" "at" "I", .fieldLink RX6 22 "WrongWord$Tape" "length" "I", .fieldLink RX6 9 "WrongWord$Tape" "bytes" "[I"] ++ wsX60)
def wsX6_faulty : List Cond := .code yX6_faulty cX6_faulty 2 (some .boolean) :: ([.fieldLink RX6 105 "WrongWord$Tape" "fault" "I", .fieldLink RX6 26 "WrongWord$Tape" "at" "I", .fieldLink RX6 108 "WrongWord$Tape" "place" "I"] ++ wsX60)
def wsX6_readSign : List Cond := .code yX6_readSign cX6_readSign 2 (some .boolean) :: ([.fieldLink RX6 26 "WrongWord$Tape" "at" "I", .methodLink RX6 42 yX6_here, .instanceMethod yX6_here, .selects RX6 yX6_here yX6_here, .initialized RX6, .code yX6_here cX6_here 1 (some .int), .fieldLink RX6 22 "WrongWord$Tape" "length" "I", .fieldLink RX6 9 "WrongWord$Tape" "bytes" "[I", .methodLink RX6 78 yX6_faulty, .instanceMethod yX6_faulty, .selects RX6 yX6_faulty yX6_faulty, .code yX6_faulty cX6_faulty 2 (some .boolean), .fieldLink RX6 105 "WrongWord$Tape" "fault" "I", .fieldLink RX6 108 "WrongWord$Tape" "place" "I"] ++ wsX60)
def wsX6_isFigure : List Cond := .code yX6_isFigure cX6_isFigure 1 (some .boolean) :: ([])
def wsX6_readNumber : List Cond := .code yX6_readNumber cX6_readNumber 4 (some .boolean) :: ([.fieldLink RX6 66 "WrongWord$Tape" "value" "I", .fieldLink RX6 26 "WrongWord$Tape" "at" "I", .fieldLink RX6 22 "WrongWord$Tape" "length" "I", .fieldLink RX6 9 "WrongWord$Tape" "bytes" "[I", .methodLink RX6 102 yX6_isFigure, .static yX6_isFigure, .initialized RX6, .code yX6_isFigure cX6_isFigure 1 (some .boolean), .methodLink RX6 78 yX6_faulty, .instanceMethod yX6_faulty, .selects RX6 yX6_faulty yX6_faulty, .code yX6_faulty cX6_faulty 2 (some .boolean), .fieldLink RX6 105 "WrongWord$Tape" "fault" "I", .fieldLink RX6 108 "WrongWord$Tape" "place" "I"] ++ wsX60)
def wsX6_readLaw_r1 : List Cond := [Cond.fieldLink RX6 18 "WrongWord$Tape" "draft" "LWrongWord$Gate;", Cond.fieldLink RX6 49 "WrongWord$Gate" "now" "LWrongWord$Moment;", Cond.fieldLink RX6 66 "WrongWord$Tape" "value" "I", Cond.fieldLink RX6 69 "WrongWord$Moment" "start" "I", Cond.fieldLink RX6 72 "WrongWord$Gate" "step" "I", Cond.fieldLink RX6 75 "WrongWord$Gate" "shrove" "I", Cond.methodLink RX6 59 yX6_readSign, Cond.instanceMethod yX6_readSign, Cond.selects RX6 yX6_readSign yX6_readSign, Cond.initialized RX6, Cond.code yX6_readSign cX6_readSign 2 (some .boolean), Cond.fieldLink RX6 26 "WrongWord$Tape" "at" "I", Cond.methodLink RX6 42 yX6_here, Cond.instanceMethod yX6_here, Cond.selects RX6 yX6_here yX6_here, Cond.code yX6_here cX6_here 1 (some .int), Cond.fieldLink RX6 22 "WrongWord$Tape" "length" "I", Cond.fieldLink RX6 9 "WrongWord$Tape" "bytes" "[I", Cond.methodLink RX6 78 yX6_faulty, Cond.instanceMethod yX6_faulty, Cond.selects RX6 yX6_faulty yX6_faulty, Cond.code yX6_faulty cX6_faulty 2 (some .boolean), Cond.fieldLink RX6 105 "WrongWord$Tape" "fault" "I", Cond.fieldLink RX6 108 "WrongWord$Tape" "place" "I"]
def wsX6_readLaw_r2 : List Cond := [Cond.methodLink RX6 63 yX6_readNumber, Cond.instanceMethod yX6_readNumber, Cond.selects RX6 yX6_readNumber yX6_readNumber, Cond.code yX6_readNumber cX6_readNumber 4 (some .boolean), Cond.methodLink RX6 102 yX6_isFigure, Cond.static yX6_isFigure, Cond.code yX6_isFigure cX6_isFigure 1 (some .boolean)]
def wsX6_readLaw : List Cond := .code yX6_readLaw cX6_readLaw 1 (some .boolean) :: ((wsX6_readLaw_r1 ++ wsX6_readLaw_r2) ++ wsX60 ++ wsX20 ++ wsX40)
def wsX6_wasTold : List Cond := .code yX6_wasTold cX6_wasTold 3 (some .boolean) :: ([.fieldLink RX6 18 "WrongWord$Tape" "draft" "LWrongWord$Gate;", .methodLink RX6 87 yX2_distance, .instanceMethod yX2_distance, .selects RX2 yX2_distance yX2_distance, .initialized RX2, .code yX2_distance cX2_distance 5 (some .int), .fieldLink RX2 9 "WrongWord$Gate" "letters" "[I"] ++ wsX60 ++ wsX20)
def wsX6_readWord_r1 : List Cond := [Cond.fieldLink RX6 18 "WrongWord$Tape" "draft" "LWrongWord$Gate;", Cond.fieldLink RX6 29 "WrongWord$Gate" "words" "I", Cond.fieldLink RX6 81 "WrongWord$Gate" "letters" "[I", Cond.fieldLink RX6 26 "WrongWord$Tape" "at" "I", Cond.methodLink RX6 42 yX6_here, Cond.instanceMethod yX6_here, Cond.selects RX6 yX6_here yX6_here, Cond.initialized RX6, Cond.code yX6_here cX6_here 1 (some .int), Cond.fieldLink RX6 22 "WrongWord$Tape" "length" "I", Cond.fieldLink RX6 9 "WrongWord$Tape" "bytes" "[I", Cond.methodLink RX6 78 yX6_faulty, Cond.instanceMethod yX6_faulty, Cond.selects RX6 yX6_faulty yX6_faulty, Cond.code yX6_faulty cX6_faulty 2 (some .boolean), Cond.fieldLink RX6 105 "WrongWord$Tape" "fault" "I", Cond.fieldLink RX6 108 "WrongWord$Tape" "place" "I", Cond.methodLink RX6 59 yX6_readSign, Cond.instanceMethod yX6_readSign, Cond.selects RX6 yX6_readSign yX6_readSign, Cond.code yX6_readSign cX6_readSign 2 (some .boolean), Cond.methodLink RX6 84 yX6_wasTold, Cond.instanceMethod yX6_wasTold, Cond.selects RX6 yX6_wasTold yX6_wasTold]
def wsX6_readWord_r2 : List Cond := [Cond.code yX6_wasTold cX6_wasTold 3 (some .boolean), Cond.methodLink RX6 87 yX2_distance, Cond.instanceMethod yX2_distance, Cond.selects RX2 yX2_distance yX2_distance, Cond.initialized RX2, Cond.code yX2_distance cX2_distance 5 (some .int), Cond.fieldLink RX2 9 "WrongWord$Gate" "letters" "[I"]
def wsX6_readWord : List Cond := .code yX6_readWord cX6_readWord 3 (some .boolean) :: ((wsX6_readWord_r1 ++ wsX6_readWord_r2) ++ wsX60 ++ wsX20)
def wsX6_kindOf : List Cond := .code yX6_kindOf cX6_kindOf 1 (some .int) :: ([.constant RX6 95 (-1000000)])
def wsX6_readGuard_r1 : List Cond := [Cond.constant RX6 95 (-1000000), Cond.fieldLink RX6 18 "WrongWord$Tape" "draft" "LWrongWord$Gate;", Cond.fieldLink RX6 32 "WrongWord$Gate" "guards" "I", Cond.fieldLink RX6 26 "WrongWord$Tape" "at" "I", Cond.fieldLink RX6 96 "WrongWord$Gate" "kinds" "[I", Cond.fieldLink RX6 99 "WrongWord$Gate" "fees" "[I", Cond.fieldLink RX6 66 "WrongWord$Tape" "value" "I", Cond.methodLink RX6 42 yX6_here, Cond.instanceMethod yX6_here, Cond.selects RX6 yX6_here yX6_here, Cond.initialized RX6, Cond.code yX6_here cX6_here 1 (some .int), Cond.fieldLink RX6 22 "WrongWord$Tape" "length" "I", Cond.fieldLink RX6 9 "WrongWord$Tape" "bytes" "[I", Cond.methodLink RX6 91 yX6_kindOf, Cond.static yX6_kindOf, Cond.code yX6_kindOf cX6_kindOf 1 (some .int), Cond.methodLink RX6 78 yX6_faulty, Cond.instanceMethod yX6_faulty, Cond.selects RX6 yX6_faulty yX6_faulty, Cond.code yX6_faulty cX6_faulty 2 (some .boolean), Cond.fieldLink RX6 105 "WrongWord$Tape" "fault" "I", Cond.fieldLink RX6 108 "WrongWord$Tape" "place" "I", Cond.methodLink RX6 63 yX6_readNumber]
def wsX6_readGuard_r2 : List Cond := [Cond.instanceMethod yX6_readNumber, Cond.selects RX6 yX6_readNumber yX6_readNumber, Cond.code yX6_readNumber cX6_readNumber 4 (some .boolean), Cond.methodLink RX6 102 yX6_isFigure, Cond.static yX6_isFigure, Cond.code yX6_isFigure cX6_isFigure 1 (some .boolean), Cond.methodLink RX6 59 yX6_readSign, Cond.instanceMethod yX6_readSign, Cond.selects RX6 yX6_readSign yX6_readSign, Cond.code yX6_readSign cX6_readSign 2 (some .boolean)]
def wsX6_readGuard : List Cond := .code yX6_readGuard cX6_readGuard 2 (some .boolean) :: ((wsX6_readGuard_r1 ++ wsX6_readGuard_r2) ++ wsX60 ++ wsX20)
def wsX6_read_r1 : List Cond := [Cond.fieldLink RX6 26 "WrongWord$Tape" "at" "I", Cond.fieldLink RX6 18 "WrongWord$Tape" "draft" "LWrongWord$Gate;", Cond.fieldLink RX6 29 "WrongWord$Gate" "words" "I", Cond.fieldLink RX6 32 "WrongWord$Gate" "guards" "I", Cond.fieldLink RX6 49 "WrongWord$Gate" "now" "LWrongWord$Moment;", Cond.methodLink RX6 35 yX6_readLaw, Cond.instanceMethod yX6_readLaw, Cond.selects RX6 yX6_readLaw yX6_readLaw, Cond.initialized RX6, Cond.code yX6_readLaw cX6_readLaw 1 (some .boolean), Cond.fieldLink RX6 66 "WrongWord$Tape" "value" "I", Cond.fieldLink RX6 69 "WrongWord$Moment" "start" "I", Cond.fieldLink RX6 72 "WrongWord$Gate" "step" "I", Cond.fieldLink RX6 75 "WrongWord$Gate" "shrove" "I", Cond.methodLink RX6 59 yX6_readSign, Cond.instanceMethod yX6_readSign, Cond.selects RX6 yX6_readSign yX6_readSign, Cond.code yX6_readSign cX6_readSign 2 (some .boolean), Cond.methodLink RX6 42 yX6_here, Cond.instanceMethod yX6_here, Cond.selects RX6 yX6_here yX6_here, Cond.code yX6_here cX6_here 1 (some .int), Cond.fieldLink RX6 22 "WrongWord$Tape" "length" "I", Cond.fieldLink RX6 9 "WrongWord$Tape" "bytes" "[I"]
def wsX6_read_r2 : List Cond := [Cond.methodLink RX6 78 yX6_faulty, Cond.instanceMethod yX6_faulty, Cond.selects RX6 yX6_faulty yX6_faulty, Cond.code yX6_faulty cX6_faulty 2 (some .boolean), Cond.fieldLink RX6 105 "WrongWord$Tape" "fault" "I", Cond.fieldLink RX6 108 "WrongWord$Tape" "place" "I", Cond.methodLink RX6 63 yX6_readNumber, Cond.instanceMethod yX6_readNumber, Cond.selects RX6 yX6_readNumber yX6_readNumber, Cond.code yX6_readNumber cX6_readNumber 4 (some .boolean), Cond.methodLink RX6 102 yX6_isFigure, Cond.static yX6_isFigure, Cond.code yX6_isFigure cX6_isFigure 1 (some .boolean), Cond.methodLink RX6 39 yX6_readWord, Cond.instanceMethod yX6_readWord, Cond.selects RX6 yX6_readWord yX6_readWord, Cond.code yX6_readWord cX6_readWord 3 (some .boolean), Cond.fieldLink RX6 81 "WrongWord$Gate" "letters" "[I", Cond.methodLink RX6 84 yX6_wasTold, Cond.instanceMethod yX6_wasTold, Cond.selects RX6 yX6_wasTold yX6_wasTold, Cond.code yX6_wasTold cX6_wasTold 3 (some .boolean), Cond.methodLink RX6 87 yX2_distance, Cond.instanceMethod yX2_distance]
def wsX6_read_r3 : List Cond := [Cond.selects RX2 yX2_distance yX2_distance, Cond.initialized RX2, Cond.code yX2_distance cX2_distance 5 (some .int), Cond.fieldLink RX2 9 "WrongWord$Gate" "letters" "[I", Cond.methodLink RX6 46 yX6_readGuard, Cond.instanceMethod yX6_readGuard, Cond.selects RX6 yX6_readGuard yX6_readGuard, Cond.code yX6_readGuard cX6_readGuard 2 (some .boolean), Cond.constant RX6 95 (-1000000), Cond.fieldLink RX6 96 "WrongWord$Gate" "kinds" "[I", Cond.fieldLink RX6 99 "WrongWord$Gate" "fees" "[I", Cond.methodLink RX6 91 yX6_kindOf, Cond.static yX6_kindOf, Cond.code yX6_kindOf cX6_kindOf 1 (some .int), Cond.methodLink RX6 53 yX4_begin, Cond.instanceMethod yX4_begin, Cond.selects RX4 yX4_begin yX4_begin, Cond.initialized RX4, Cond.code yX4_begin cX4_begin 3 none, Cond.fieldLink RX4 24 "WrongWord$Moment" "night" "I", Cond.fieldLink RX4 28 "WrongWord$Moment" "there" "I", Cond.fieldLink RX4 31 "WrongWord$Moment" "tries" "I", Cond.fieldLink RX4 9 "WrongWord$Moment" "took" "[I"]
def wsX6_read : List Cond := .code yX6_read cX6_read 2 (some .boolean) :: ((wsX6_read_r1 ++ (wsX6_read_r2 ++ wsX6_read_r3)) ++ wsX60 ++ wsX20 ++ wsX40)
def wsX7_init_r1 : List Cond := [Cond.methodLink RX7 1 objectInit, Cond.instanceMethod objectInit, Cond.code objectInit ⟨#[0xb1]⟩ 1 none, Cond.classLink RX7 9 RX5, Cond.fieldLink RX7 11 "WrongWord" "rows" "[LWrongWord$Row;", Cond.classLink RX7 15 RX6, Cond.instantiable RX6 7, Cond.initialized RX6, Cond.fieldLink RX7 18 "WrongWord" "tape" "LWrongWord$Tape;", Cond.classLink RX7 22 RX2, Cond.instantiable RX2 8, Cond.initialized RX2, Cond.fieldLink RX7 25 "WrongWord" "gate" "LWrongWord$Gate;", Cond.classLink RX7 29 RX0, Cond.instantiable RX0 3, Cond.initialized RX0, Cond.fieldLink RX7 32 "WrongWord" "acts" "LWrongWord$Acts;", Cond.fieldLink RX7 36 "WrongWord" "images" "[LWrongWord$Gate;", Cond.classLink RX7 40 RX3, Cond.instantiable RX3 2, Cond.initialized RX3, Cond.fieldLink RX7 43 "WrongWord" "guesses" "LWrongWord$Guesses;", Cond.classLink RX7 47 RX1, Cond.instantiable RX1 6]
def wsX7_init_r2 : List Cond := [Cond.initialized RX1, Cond.fieldLink RX7 50 "WrongWord" "asks" "LWrongWord$Asks;", Cond.instantiable RX5 3, Cond.initialized RX5, Cond.instanceMethod yX6_init, Cond.code yX6_init cX6_init 1 none, Cond.methodLink RX6 3 objectInit, Cond.arrayClass .int, Cond.fieldLink RX6 9 "WrongWord$Tape" "bytes" "[I", Cond.classLink RX6 15 RX2, Cond.fieldLink RX6 18 "WrongWord$Tape" "draft" "LWrongWord$Gate;", Cond.instanceMethod yX2_init, Cond.code yX2_init cX2_init 1 none, Cond.methodLink RX2 3 objectInit, Cond.fieldLink RX2 9 "WrongWord$Gate" "letters" "[I", Cond.fieldLink RX2 15 "WrongWord$Gate" "kinds" "[I", Cond.fieldLink RX2 18 "WrongWord$Gate" "fees" "[I", Cond.classLink RX2 21 RX4, Cond.instantiable RX4 8, Cond.initialized RX4, Cond.fieldLink RX2 24 "WrongWord$Gate" "now" "LWrongWord$Moment;", Cond.instanceMethod yX4_init, Cond.code yX4_init cX4_init 1 none, Cond.methodLink RX4 3 objectInit]
def wsX7_init_r3 : List Cond := [Cond.fieldLink RX4 9 "WrongWord$Moment" "took" "[I", Cond.fieldLink RX4 15 "WrongWord$Moment" "triedWord" "[I", Cond.fieldLink RX4 18 "WrongWord$Moment" "triedGuard" "[I", Cond.fieldLink RX4 21 "WrongWord$Moment" "triedTaken" "[I", Cond.methodLink RX7 31 yX0_init, Cond.instanceMethod yX0_init, Cond.code yX0_init cX0_init 2 none, Cond.methodLink RX0 3 objectInit, Cond.classLink RX0 9 RX4, Cond.fieldLink RX0 11 "WrongWord$Acts" "ahead" "[LWrongWord$Moment;", Cond.instanceMethod yX3_init, Cond.code yX3_init cX3_init 1 none, Cond.methodLink RX3 3 objectInit, Cond.fieldLink RX3 9 "WrongWord$Guesses" "catching" "[I", Cond.fieldLink RX3 15 "WrongWord$Guesses" "menFor" "[I", Cond.instanceMethod yX1_init, Cond.code yX1_init cX1_init 1 none, Cond.methodLink RX1 3 objectInit, Cond.fieldLink RX1 11 "WrongWord$Asks" "bodies" "[I", Cond.instanceMethod yX5_init, Cond.code yX5_init cX5_init 1 none, Cond.methodLink RX5 3 objectInit, Cond.fieldLink RX5 9 "WrongWord$Row" "items" "[I", Cond.fieldLink RX5 15 "WrongWord$Row" "lane" "I"]
def wsX7_init : List Cond := .code yX7_init cX7_init 2 none :: ((wsX7_init_r1 ++ (wsX7_init_r2 ++ wsX7_init_r3)) ++ wsX70 ++ wsX60 ++ wsX20 ++ wsX00 ++ wsX30 ++ wsX10 ++ wsX50 ++ wsX40)
def wsX7_isRow : List Cond := .code yX7_isRow cX7_isRow 2 (some .boolean) :: ([])
def wsX7_found : List Cond := .code yX7_found cX7_found 2 (some .int) :: ([.fieldLink RX7 333 "WrongWord" "latestFinding" "I", .constant RX7 336 (-1000010)] ++ wsX70)
def wsX7_unfound : List Cond := .code yX7_unfound cX7_unfound 2 (some .int) :: ([.fieldLink RX7 333 "WrongWord" "latestFinding" "I"] ++ wsX70)
def wsX7_row_r1 : List Cond := [Cond.constant RX7 59 (-1000001), Cond.fieldLink RX7 11 "WrongWord" "rows" "[LWrongWord$Row;", Cond.methodLink RX7 55 yX7_isRow, Cond.instanceMethod yX7_isRow, Cond.selects RX7 yX7_isRow yX7_isRow, Cond.initialized RX7, Cond.code yX7_isRow cX7_isRow 2 (some .boolean), Cond.methodLink RX7 60 yX7_found, Cond.instanceMethod yX7_found, Cond.selects RX7 yX7_found yX7_found, Cond.code yX7_found cX7_found 2 (some .int), Cond.fieldLink RX7 333 "WrongWord" "latestFinding" "I", Cond.constant RX7 336 (-1000010), Cond.methodLink RX7 64 yX5_make, Cond.instanceMethod yX5_make, Cond.selects RX5 yX5_make yX5_make, Cond.initialized RX5, Cond.code yX5_make cX5_make 4 none, Cond.fieldLink RX5 15 "WrongWord$Row" "lane" "I", Cond.fieldLink RX5 19 "WrongWord$Row" "size" "I", Cond.fieldLink RX5 9 "WrongWord$Row" "items" "[I", Cond.methodLink RX7 68 yX7_unfound, Cond.instanceMethod yX7_unfound, Cond.selects RX7 yX7_unfound yX7_unfound]
def wsX7_row_r2 : List Cond := [Cond.code yX7_unfound cX7_unfound 2 (some .int)]
def wsX7_row : List Cond := .code yX7_row cX7_row 4 (some .int) :: ((wsX7_row_r1 ++ wsX7_row_r2) ++ wsX70 ++ wsX50)
def wsX7_set_r1 : List Cond := [Cond.constant RX7 59 (-1000001), Cond.fieldLink RX7 11 "WrongWord" "rows" "[LWrongWord$Row;", Cond.methodLink RX7 55 yX7_isRow, Cond.instanceMethod yX7_isRow, Cond.selects RX7 yX7_isRow yX7_isRow, Cond.initialized RX7, Cond.code yX7_isRow cX7_isRow 2 (some .boolean), Cond.methodLink RX7 71 yX5_findingOf, Cond.instanceMethod yX5_findingOf, Cond.selects RX5 yX5_findingOf yX5_findingOf, Cond.initialized RX5, Cond.code yX5_findingOf cX5_findingOf 3 (some .int), Cond.fieldLink RX5 15 "WrongWord$Row" "lane" "I", Cond.methodLink RX5 22 yX5_reaches, Cond.instanceMethod yX5_reaches, Cond.selects RX5 yX5_reaches yX5_reaches, Cond.code yX5_reaches cX5_reaches 3 (some .boolean), Cond.fieldLink RX5 19 "WrongWord$Row" "size" "I", Cond.methodLink RX7 60 yX7_found, Cond.instanceMethod yX7_found, Cond.selects RX7 yX7_found yX7_found, Cond.code yX7_found cX7_found 2 (some .int), Cond.fieldLink RX7 333 "WrongWord" "latestFinding" "I", Cond.constant RX7 336 (-1000010)]
def wsX7_set_r2 : List Cond := [Cond.methodLink RX7 75 yX5_put, Cond.instanceMethod yX5_put, Cond.selects RX5 yX5_put yX5_put, Cond.code yX5_put cX5_put 3 (some .int), Cond.fieldLink RX5 9 "WrongWord$Row" "items" "[I", Cond.methodLink RX7 68 yX7_unfound, Cond.instanceMethod yX7_unfound, Cond.selects RX7 yX7_unfound yX7_unfound, Cond.code yX7_unfound cX7_unfound 2 (some .int)]
def wsX7_set : List Cond := .code yX7_set cX7_set 5 (some .int) :: ((wsX7_set_r1 ++ wsX7_set_r2) ++ wsX70 ++ wsX50)
def wsX7_copy_r1 : List Cond := [Cond.constant RX7 59 (-1000001), Cond.fieldLink RX7 11 "WrongWord" "rows" "[LWrongWord$Row;", Cond.fieldLink RX7 78 "WrongWord$Row" "lane" "I", Cond.fieldLink RX7 86 "WrongWord$Row" "items" "[I", Cond.methodLink RX7 90 arraycopyName, Cond.native arraycopyName, Cond.static arraycopyName, Cond.initialized "java/lang/System", Cond.methodLink RX7 55 yX7_isRow, Cond.instanceMethod yX7_isRow, Cond.selects RX7 yX7_isRow yX7_isRow, Cond.initialized RX7, Cond.code yX7_isRow cX7_isRow 2 (some .boolean), Cond.methodLink RX7 60 yX7_found, Cond.instanceMethod yX7_found, Cond.selects RX7 yX7_found yX7_found, Cond.code yX7_found cX7_found 2 (some .int), Cond.fieldLink RX7 333 "WrongWord" "latestFinding" "I", Cond.constant RX7 336 (-1000010), Cond.methodLink RX7 82 yX5_reaches, Cond.instanceMethod yX5_reaches, Cond.selects RX5 yX5_reaches yX5_reaches, Cond.initialized RX5, Cond.code yX5_reaches cX5_reaches 3 (some .boolean)]
def wsX7_copy_r2 : List Cond := [Cond.fieldLink RX5 19 "WrongWord$Row" "size" "I", Cond.methodLink RX7 68 yX7_unfound, Cond.instanceMethod yX7_unfound, Cond.selects RX7 yX7_unfound yX7_unfound, Cond.code yX7_unfound cX7_unfound 2 (some .int)]
def wsX7_copy : List Cond := .code yX7_copy cX7_copy 8 (some .int) :: ((wsX7_copy_r1 ++ wsX7_copy_r2) ++ wsX70 ++ wsX50)
def wsX7_drop : List Cond := .code yX7_drop cX7_drop 2 (some .int) :: ([.constant RX7 59 (-1000001), .fieldLink RX7 11 "WrongWord" "rows" "[LWrongWord$Row;", .fieldLink RX7 78 "WrongWord$Row" "lane" "I", .fieldLink RX7 96 "WrongWord$Row" "size" "I", .methodLink RX7 55 yX7_isRow, .instanceMethod yX7_isRow, .selects RX7 yX7_isRow yX7_isRow, .initialized RX7, .code yX7_isRow cX7_isRow 2 (some .boolean), .methodLink RX7 60 yX7_found, .instanceMethod yX7_found, .selects RX7 yX7_found yX7_found, .code yX7_found cX7_found 2 (some .int), .fieldLink RX7 333 "WrongWord" "latestFinding" "I", .constant RX7 336 (-1000010), .methodLink RX7 68 yX7_unfound, .instanceMethod yX7_unfound, .selects RX7 yX7_unfound yX7_unfound, .code yX7_unfound cX7_unfound 2 (some .int)] ++ wsX70 ++ wsX50)
def wsX7_feed : List Cond := .code yX7_feed cX7_feed 2 (some .int) :: ([.constant RX7 59 (-1000001), .fieldLink RX7 18 "WrongWord" "tape" "LWrongWord$Tape;", .fieldLink RX7 102 "WrongWord$Tape" "length" "I", .constant RX7 105 (-1000003), .methodLink RX7 99 yX6_append, .instanceMethod yX6_append, .selects RX6 yX6_append yX6_append, .initialized RX6, .code yX6_append cX6_append 2 (some .boolean), .fieldLink RX6 22 "WrongWord$Tape" "length" "I", .fieldLink RX6 9 "WrongWord$Tape" "bytes" "[I"] ++ wsX70 ++ wsX60)
def wsX7_gate_r1 : List Cond := [Cond.fieldLink RX7 18 "WrongWord" "tape" "LWrongWord$Tape;", Cond.fieldLink RX7 102 "WrongWord$Tape" "length" "I", Cond.fieldLink RX7 110 "WrongWord$Tape" "fault" "I", Cond.fieldLink RX7 113 "WrongWord" "latestFault" "I", Cond.constant RX7 116 (-1000100), Cond.fieldLink RX7 117 "WrongWord$Tape" "place" "I", Cond.fieldLink RX7 25 "WrongWord" "gate" "LWrongWord$Gate;", Cond.fieldLink RX7 120 "WrongWord$Tape" "draft" "LWrongWord$Gate;", Cond.fieldLink RX7 32 "WrongWord" "acts" "LWrongWord$Acts;", Cond.fieldLink RX7 130 "WrongWord$Gate" "words" "I", Cond.methodLink RX7 106 yX6_read, Cond.instanceMethod yX6_read, Cond.selects RX6 yX6_read yX6_read, Cond.initialized RX6, Cond.code yX6_read cX6_read 2 (some .boolean), Cond.fieldLink RX6 26 "WrongWord$Tape" "at" "I", Cond.fieldLink RX6 18 "WrongWord$Tape" "draft" "LWrongWord$Gate;", Cond.fieldLink RX6 29 "WrongWord$Gate" "words" "I", Cond.fieldLink RX6 32 "WrongWord$Gate" "guards" "I", Cond.fieldLink RX6 49 "WrongWord$Gate" "now" "LWrongWord$Moment;", Cond.methodLink RX6 35 yX6_readLaw, Cond.instanceMethod yX6_readLaw, Cond.selects RX6 yX6_readLaw yX6_readLaw, Cond.code yX6_readLaw cX6_readLaw 1 (some .boolean)]
def wsX7_gate_r2 : List Cond := [Cond.fieldLink RX6 66 "WrongWord$Tape" "value" "I", Cond.fieldLink RX6 69 "WrongWord$Moment" "start" "I", Cond.fieldLink RX6 72 "WrongWord$Gate" "step" "I", Cond.fieldLink RX6 75 "WrongWord$Gate" "shrove" "I", Cond.methodLink RX6 59 yX6_readSign, Cond.instanceMethod yX6_readSign, Cond.selects RX6 yX6_readSign yX6_readSign, Cond.code yX6_readSign cX6_readSign 2 (some .boolean), Cond.methodLink RX6 42 yX6_here, Cond.instanceMethod yX6_here, Cond.selects RX6 yX6_here yX6_here, Cond.code yX6_here cX6_here 1 (some .int), Cond.fieldLink RX6 22 "WrongWord$Tape" "length" "I", Cond.fieldLink RX6 9 "WrongWord$Tape" "bytes" "[I", Cond.methodLink RX6 78 yX6_faulty, Cond.instanceMethod yX6_faulty, Cond.selects RX6 yX6_faulty yX6_faulty, Cond.code yX6_faulty cX6_faulty 2 (some .boolean), Cond.fieldLink RX6 105 "WrongWord$Tape" "fault" "I", Cond.fieldLink RX6 108 "WrongWord$Tape" "place" "I", Cond.methodLink RX6 63 yX6_readNumber, Cond.instanceMethod yX6_readNumber, Cond.selects RX6 yX6_readNumber yX6_readNumber, Cond.code yX6_readNumber cX6_readNumber 4 (some .boolean)]
def wsX7_gate_r3 : List Cond := [Cond.methodLink RX6 102 yX6_isFigure, Cond.static yX6_isFigure, Cond.code yX6_isFigure cX6_isFigure 1 (some .boolean), Cond.methodLink RX6 39 yX6_readWord, Cond.instanceMethod yX6_readWord, Cond.selects RX6 yX6_readWord yX6_readWord, Cond.code yX6_readWord cX6_readWord 3 (some .boolean), Cond.fieldLink RX6 81 "WrongWord$Gate" "letters" "[I", Cond.methodLink RX6 84 yX6_wasTold, Cond.instanceMethod yX6_wasTold, Cond.selects RX6 yX6_wasTold yX6_wasTold, Cond.code yX6_wasTold cX6_wasTold 3 (some .boolean), Cond.methodLink RX6 87 yX2_distance, Cond.instanceMethod yX2_distance, Cond.selects RX2 yX2_distance yX2_distance, Cond.initialized RX2, Cond.code yX2_distance cX2_distance 5 (some .int), Cond.fieldLink RX2 9 "WrongWord$Gate" "letters" "[I", Cond.methodLink RX6 46 yX6_readGuard, Cond.instanceMethod yX6_readGuard, Cond.selects RX6 yX6_readGuard yX6_readGuard, Cond.code yX6_readGuard cX6_readGuard 2 (some .boolean), Cond.constant RX6 95 (-1000000), Cond.fieldLink RX6 96 "WrongWord$Gate" "kinds" "[I"]
def wsX7_gate_r4 : List Cond := [Cond.fieldLink RX6 99 "WrongWord$Gate" "fees" "[I", Cond.methodLink RX6 91 yX6_kindOf, Cond.static yX6_kindOf, Cond.code yX6_kindOf cX6_kindOf 1 (some .int), Cond.methodLink RX6 53 yX4_begin, Cond.instanceMethod yX4_begin, Cond.selects RX4 yX4_begin yX4_begin, Cond.initialized RX4, Cond.code yX4_begin cX4_begin 3 none, Cond.fieldLink RX4 24 "WrongWord$Moment" "night" "I", Cond.fieldLink RX4 28 "WrongWord$Moment" "there" "I", Cond.fieldLink RX4 31 "WrongWord$Moment" "tries" "I", Cond.fieldLink RX4 9 "WrongWord$Moment" "took" "[I", Cond.methodLink RX7 123 yX2_become, Cond.instanceMethod yX2_become, Cond.selects RX2 yX2_become yX2_become, Cond.code yX2_become cX2_become 2 none, Cond.methodLink RX2 28 arraycopyName, Cond.native arraycopyName, Cond.static arraycopyName, Cond.initialized "java/lang/System", Cond.fieldLink RX2 15 "WrongWord$Gate" "kinds" "[I", Cond.fieldLink RX2 18 "WrongWord$Gate" "fees" "[I", Cond.fieldLink RX2 24 "WrongWord$Gate" "now" "LWrongWord$Moment;"]
def wsX7_gate_r5 : List Cond := [Cond.fieldLink RX2 38 "WrongWord$Gate" "step" "I", Cond.fieldLink RX2 42 "WrongWord$Gate" "shrove" "I", Cond.fieldLink RX2 45 "WrongWord$Gate" "words" "I", Cond.fieldLink RX2 48 "WrongWord$Gate" "guards" "I", Cond.methodLink RX2 34 yX4_become, Cond.instanceMethod yX4_become, Cond.selects RX4 yX4_become yX4_become, Cond.code yX4_become cX4_become 2 none, Cond.fieldLink RX4 34 "WrongWord$Moment" "start" "I", Cond.methodLink RX4 37 arraycopyName, Cond.fieldLink RX4 15 "WrongWord$Moment" "triedWord" "[I", Cond.fieldLink RX4 18 "WrongWord$Moment" "triedGuard" "[I", Cond.fieldLink RX4 21 "WrongWord$Moment" "triedTaken" "[I", Cond.methodLink RX7 127 yX0_forget, Cond.instanceMethod yX0_forget, Cond.selects RX0 yX0_forget yX0_forget, Cond.initialized RX0, Cond.code yX0_forget cX0_forget 1 none, Cond.fieldLink RX0 18 "WrongWord$Acts" "kept" "I"]
def wsX7_gate : List Cond := .code yX7_gate cX7_gate 2 (some .int) :: ((wsX7_gate_r1 ++ (wsX7_gate_r2 ++ (wsX7_gate_r3 ++ (wsX7_gate_r4 ++ wsX7_gate_r5)))) ++ wsX70 ++ wsX60 ++ wsX20 ++ wsX40 ++ wsX00)
def wsX7_fault : List Cond := .code yX7_fault cX7_fault 1 (some .int) :: ([.fieldLink RX7 113 "WrongWord" "latestFault" "I"] ++ wsX70)
def wsX7_noGate : List Cond := .code yX7_noGate cX7_noGate 1 (some .boolean) :: ([.fieldLink RX7 25 "WrongWord" "gate" "LWrongWord$Gate;", .fieldLink RX7 130 "WrongWord$Gate" "words" "I"] ++ wsX70 ++ wsX20)
def wsX7_nights_r1 : List Cond := [Cond.constant RX7 136 (-1000002), Cond.constant RX7 59 (-1000001), Cond.fieldLink RX7 25 "WrongWord" "gate" "LWrongWord$Gate;", Cond.fieldLink RX7 137 "WrongWord$Gate" "now" "LWrongWord$Moment;", Cond.fieldLink RX7 141 "WrongWord$Moment" "night" "I", Cond.constant RX7 105 (-1000003), Cond.fieldLink RX7 32 "WrongWord" "acts" "LWrongWord$Acts;", Cond.methodLink RX7 133 yX7_noGate, Cond.instanceMethod yX7_noGate, Cond.selects RX7 yX7_noGate yX7_noGate, Cond.initialized RX7, Cond.code yX7_noGate cX7_noGate 1 (some .boolean), Cond.fieldLink RX7 130 "WrongWord$Gate" "words" "I", Cond.methodLink RX7 146 yX0_keep, Cond.instanceMethod yX0_keep, Cond.selects RX0 yX0_keep yX0_keep, Cond.initialized RX0, Cond.code yX0_keep cX0_keep 2 none, Cond.fieldLink RX0 11 "WrongWord$Acts" "ahead" "[LWrongWord$Moment;", Cond.fieldLink RX0 22 "WrongWord$Acts" "at" "I", Cond.fieldLink RX0 18 "WrongWord$Acts" "kept" "I", Cond.methodLink RX0 29 Lib.Math.min.name, Cond.static Lib.Math.min.name, Cond.initialized "java/lang/Math"]
def wsX7_nights_r2 : List Cond := [Cond.code Lib.Math.min.name Lib.Math.min.code 2 (some .int), Cond.methodLink RX0 25 yX4_become, Cond.instanceMethod yX4_become, Cond.selects RX4 yX4_become yX4_become, Cond.initialized RX4, Cond.code yX4_become cX4_become 2 none, Cond.fieldLink RX4 24 "WrongWord$Moment" "night" "I", Cond.fieldLink RX4 34 "WrongWord$Moment" "start" "I", Cond.fieldLink RX4 28 "WrongWord$Moment" "there" "I", Cond.fieldLink RX4 31 "WrongWord$Moment" "tries" "I", Cond.fieldLink RX4 9 "WrongWord$Moment" "took" "[I", Cond.methodLink RX4 37 arraycopyName, Cond.native arraycopyName, Cond.static arraycopyName, Cond.initialized "java/lang/System", Cond.fieldLink RX4 15 "WrongWord$Moment" "triedWord" "[I", Cond.fieldLink RX4 18 "WrongWord$Moment" "triedGuard" "[I", Cond.fieldLink RX4 21 "WrongWord$Moment" "triedTaken" "[I", Cond.methodLink RX7 150 yX4_goBy, Cond.instanceMethod yX4_goBy, Cond.selects RX4 yX4_goBy yX4_goBy, Cond.code yX4_goBy cX4_goBy 1 none, Cond.methodLink RX7 153 yX2_secretIn, Cond.instanceMethod yX2_secretIn]
def wsX7_nights_r3 : List Cond := [Cond.selects RX2 yX2_secretIn yX2_secretIn, Cond.initialized RX2, Cond.code yX2_secretIn cX2_secretIn 2 (some .int), Cond.fieldLink RX2 24 "WrongWord$Gate" "now" "LWrongWord$Moment;", Cond.fieldLink RX2 55 "WrongWord$Moment" "start" "I", Cond.fieldLink RX2 38 "WrongWord$Gate" "step" "I", Cond.fieldLink RX2 42 "WrongWord$Gate" "shrove" "I", Cond.fieldLink RX2 58 "WrongWord$Moment" "night" "I", Cond.methodLink RX2 61 yX2_secretBy, Cond.instanceMethod yX2_secretBy, Cond.selects RX2 yX2_secretBy yX2_secretBy, Cond.code yX2_secretBy cX2_secretBy 5 (some .int), Cond.fieldLink RX2 45 "WrongWord$Gate" "words" "I", Cond.static yX7_rest, Cond.code yX7_rest cX7_rest 2 (some .int)]
def wsX7_nights : List Cond := .code yX7_nights cX7_nights 3 (some .int) :: ((wsX7_nights_r1 ++ (wsX7_nights_r2 ++ wsX7_nights_r3)) ++ wsX70 ++ wsX20 ++ wsX40 ++ wsX00)
def wsX7_isWord : List Cond := .code yX7_isWord cX7_isWord 2 (some .boolean) :: ([.fieldLink RX7 25 "WrongWord" "gate" "LWrongWord$Gate;", .fieldLink RX7 130 "WrongWord$Gate" "words" "I"] ++ wsX70 ++ wsX20)
def wsX7_isHour : List Cond := .code yX7_isHour cX7_isHour 2 (some .boolean) :: ([])
def wsX7_say_r1 : List Cond := [Cond.constant RX7 59 (-1000001), Cond.fieldLink RX7 25 "WrongWord" "gate" "LWrongWord$Gate;", Cond.fieldLink RX7 137 "WrongWord$Gate" "now" "LWrongWord$Moment;", Cond.fieldLink RX7 162 "WrongWord$Moment" "tries" "I", Cond.constant RX7 105 (-1000003), Cond.fieldLink RX7 141 "WrongWord$Moment" "night" "I", Cond.fieldLink RX7 32 "WrongWord" "acts" "LWrongWord$Acts;", Cond.constant RX7 175 (-1000000), Cond.methodLink RX7 156 yX7_isWord, Cond.instanceMethod yX7_isWord, Cond.selects RX7 yX7_isWord yX7_isWord, Cond.initialized RX7, Cond.code yX7_isWord cX7_isWord 2 (some .boolean), Cond.fieldLink RX7 130 "WrongWord$Gate" "words" "I", Cond.methodLink RX7 159 yX7_isHour, Cond.instanceMethod yX7_isHour, Cond.selects RX7 yX7_isHour yX7_isHour, Cond.code yX7_isHour cX7_isHour 2 (some .boolean), Cond.methodLink RX7 165 yX2_guardOn, Cond.instanceMethod yX2_guardOn, Cond.selects RX2 yX2_guardOn yX2_guardOn, Cond.initialized RX2, Cond.code yX2_guardOn cX2_guardOn 3 (some .int), Cond.fieldLink RX2 48 "WrongWord$Gate" "guards" "I"]
def wsX7_say_r2 : List Cond := [Cond.static yX7_rest, Cond.code yX7_rest cX7_rest 2 (some .int), Cond.methodLink RX7 168 yX2_catches, Cond.instanceMethod yX2_catches, Cond.selects RX2 yX2_catches yX2_catches, Cond.code yX2_catches cX2_catches 4 (some .boolean), Cond.fieldLink RX2 24 "WrongWord$Gate" "now" "LWrongWord$Moment;", Cond.fieldLink RX2 58 "WrongWord$Moment" "night" "I", Cond.methodLink RX2 85 yX2_secretIn, Cond.instanceMethod yX2_secretIn, Cond.selects RX2 yX2_secretIn yX2_secretIn, Cond.code yX2_secretIn cX2_secretIn 2 (some .int), Cond.fieldLink RX2 55 "WrongWord$Moment" "start" "I", Cond.fieldLink RX2 38 "WrongWord$Gate" "step" "I", Cond.fieldLink RX2 42 "WrongWord$Gate" "shrove" "I", Cond.methodLink RX2 61 yX2_secretBy, Cond.instanceMethod yX2_secretBy, Cond.selects RX2 yX2_secretBy yX2_secretBy, Cond.code yX2_secretBy cX2_secretBy 5 (some .int), Cond.fieldLink RX2 45 "WrongWord$Gate" "words" "I", Cond.methodLink RX2 89 yX2_catchesIf, Cond.instanceMethod yX2_catchesIf, Cond.selects RX2 yX2_catchesIf yX2_catchesIf, Cond.code yX2_catchesIf cX2_catchesIf 6 (some .boolean)]
def wsX7_say_r3 : List Cond := [Cond.fieldLink RX2 15 "WrongWord$Gate" "kinds" "[I", Cond.methodLink RX2 74 yX2_guardOn, Cond.methodLink RX2 77 yX2_isThere, Cond.instanceMethod yX2_isThere, Cond.selects RX2 yX2_isThere yX2_isThere, Cond.code yX2_isThere cX2_isThere 2 (some .boolean), Cond.fieldLink RX2 65 "WrongWord$Moment" "there" "I", Cond.methodLink RX2 81 yX2_wouldTake, Cond.instanceMethod yX2_wouldTake, Cond.selects RX2 yX2_wouldTake yX2_wouldTake, Cond.code yX2_wouldTake cX2_wouldTake 5 (some .boolean), Cond.methodLink RX2 68 yX2_distance, Cond.instanceMethod yX2_distance, Cond.selects RX2 yX2_distance yX2_distance, Cond.code yX2_distance cX2_distance 5 (some .int), Cond.fieldLink RX2 9 "WrongWord$Gate" "letters" "[I", Cond.methodLink RX2 71 yX2_lips, Cond.instanceMethod yX2_lips, Cond.selects RX2 yX2_lips yX2_lips, Cond.code yX2_lips cX2_lips 5 (some .int), Cond.methodLink RX7 146 yX0_keep, Cond.instanceMethod yX0_keep, Cond.selects RX0 yX0_keep yX0_keep, Cond.initialized RX0]
def wsX7_say_r4 : List Cond := [Cond.code yX0_keep cX0_keep 2 none, Cond.fieldLink RX0 11 "WrongWord$Acts" "ahead" "[LWrongWord$Moment;", Cond.fieldLink RX0 22 "WrongWord$Acts" "at" "I", Cond.fieldLink RX0 18 "WrongWord$Acts" "kept" "I", Cond.methodLink RX0 29 Lib.Math.min.name, Cond.static Lib.Math.min.name, Cond.initialized "java/lang/Math", Cond.code Lib.Math.min.name Lib.Math.min.code 2 (some .int), Cond.methodLink RX0 25 yX4_become, Cond.instanceMethod yX4_become, Cond.selects RX4 yX4_become yX4_become, Cond.initialized RX4, Cond.code yX4_become cX4_become 2 none, Cond.fieldLink RX4 24 "WrongWord$Moment" "night" "I", Cond.fieldLink RX4 34 "WrongWord$Moment" "start" "I", Cond.fieldLink RX4 28 "WrongWord$Moment" "there" "I", Cond.fieldLink RX4 31 "WrongWord$Moment" "tries" "I", Cond.fieldLink RX4 9 "WrongWord$Moment" "took" "[I", Cond.methodLink RX4 37 arraycopyName, Cond.native arraycopyName, Cond.static arraycopyName, Cond.initialized "java/lang/System", Cond.fieldLink RX4 15 "WrongWord$Moment" "triedWord" "[I", Cond.fieldLink RX4 18 "WrongWord$Moment" "triedGuard" "[I"]
def wsX7_say_r5 : List Cond := [Cond.fieldLink RX4 21 "WrongWord$Moment" "triedTaken" "[I", Cond.methodLink RX7 172 yX2_isThere, Cond.methodLink RX7 176 yX4_addTry, Cond.instanceMethod yX4_addTry, Cond.selects RX4 yX4_addTry yX4_addTry, Cond.code yX4_addTry cX4_addTry 4 none, Cond.static yX7_bit, Cond.code yX7_bit cX7_bit 1 (some .int), Cond.methodLink RX7 180 yX7_bit]
def wsX7_say : List Cond := .code yX7_say cX7_say 5 (some .int) :: ((wsX7_say_r1 ++ (wsX7_say_r2 ++ (wsX7_say_r3 ++ (wsX7_say_r4 ++ wsX7_say_r5)))) ++ wsX70 ++ wsX20 ++ wsX40 ++ wsX00)
def wsX7_start_r1 : List Cond := [Cond.constant RX7 136 (-1000002), Cond.constant RX7 59 (-1000001), Cond.fieldLink RX7 25 "WrongWord" "gate" "LWrongWord$Gate;", Cond.fieldLink RX7 137 "WrongWord$Gate" "now" "LWrongWord$Moment;", Cond.fieldLink RX7 184 "WrongWord$Moment" "start" "I", Cond.fieldLink RX7 32 "WrongWord" "acts" "LWrongWord$Acts;", Cond.methodLink RX7 133 yX7_noGate, Cond.instanceMethod yX7_noGate, Cond.selects RX7 yX7_noGate yX7_noGate, Cond.initialized RX7, Cond.code yX7_noGate cX7_noGate 1 (some .boolean), Cond.fieldLink RX7 130 "WrongWord$Gate" "words" "I", Cond.methodLink RX7 146 yX0_keep, Cond.instanceMethod yX0_keep, Cond.selects RX0 yX0_keep yX0_keep, Cond.initialized RX0, Cond.code yX0_keep cX0_keep 2 none, Cond.fieldLink RX0 11 "WrongWord$Acts" "ahead" "[LWrongWord$Moment;", Cond.fieldLink RX0 22 "WrongWord$Acts" "at" "I", Cond.fieldLink RX0 18 "WrongWord$Acts" "kept" "I", Cond.methodLink RX0 29 Lib.Math.min.name, Cond.static Lib.Math.min.name, Cond.initialized "java/lang/Math", Cond.code Lib.Math.min.name Lib.Math.min.code 2 (some .int)]
def wsX7_start_r2 : List Cond := [Cond.methodLink RX0 25 yX4_become, Cond.instanceMethod yX4_become, Cond.selects RX4 yX4_become yX4_become, Cond.initialized RX4, Cond.code yX4_become cX4_become 2 none, Cond.fieldLink RX4 24 "WrongWord$Moment" "night" "I", Cond.fieldLink RX4 34 "WrongWord$Moment" "start" "I", Cond.fieldLink RX4 28 "WrongWord$Moment" "there" "I", Cond.fieldLink RX4 31 "WrongWord$Moment" "tries" "I", Cond.fieldLink RX4 9 "WrongWord$Moment" "took" "[I", Cond.methodLink RX4 37 arraycopyName, Cond.native arraycopyName, Cond.static arraycopyName, Cond.initialized "java/lang/System", Cond.fieldLink RX4 15 "WrongWord$Moment" "triedWord" "[I", Cond.fieldLink RX4 18 "WrongWord$Moment" "triedGuard" "[I", Cond.fieldLink RX4 21 "WrongWord$Moment" "triedTaken" "[I"]
def wsX7_start : List Cond := .code yX7_start cX7_start 3 (some .int) :: ((wsX7_start_r1 ++ wsX7_start_r2) ++ wsX70 ++ wsX20 ++ wsX40 ++ wsX00)
def wsX7_isGuard : List Cond := .code yX7_isGuard cX7_isGuard 2 (some .boolean) :: ([.fieldLink RX7 25 "WrongWord" "gate" "LWrongWord$Gate;", .fieldLink RX7 327 "WrongWord$Gate" "guards" "I"] ++ wsX70 ++ wsX20)
def wsX7_dismiss_r1 : List Cond := [Cond.constant RX7 59 (-1000001), Cond.fieldLink RX7 25 "WrongWord" "gate" "LWrongWord$Gate;", Cond.constant RX7 136 (-1000002), Cond.fieldLink RX7 32 "WrongWord" "acts" "LWrongWord$Acts;", Cond.fieldLink RX7 137 "WrongWord$Gate" "now" "LWrongWord$Moment;", Cond.fieldLink RX7 190 "WrongWord$Moment" "there" "I", Cond.methodLink RX7 187 yX7_isGuard, Cond.instanceMethod yX7_isGuard, Cond.selects RX7 yX7_isGuard yX7_isGuard, Cond.initialized RX7, Cond.code yX7_isGuard cX7_isGuard 2 (some .boolean), Cond.fieldLink RX7 327 "WrongWord$Gate" "guards" "I", Cond.methodLink RX7 172 yX2_isThere, Cond.instanceMethod yX2_isThere, Cond.selects RX2 yX2_isThere yX2_isThere, Cond.initialized RX2, Cond.code yX2_isThere cX2_isThere 2 (some .boolean), Cond.fieldLink RX2 24 "WrongWord$Gate" "now" "LWrongWord$Moment;", Cond.fieldLink RX2 65 "WrongWord$Moment" "there" "I", Cond.methodLink RX7 180 yX7_bit, Cond.static yX7_bit, Cond.code yX7_bit cX7_bit 1 (some .int), Cond.methodLink RX7 146 yX0_keep, Cond.instanceMethod yX0_keep]
def wsX7_dismiss_r2 : List Cond := [Cond.selects RX0 yX0_keep yX0_keep, Cond.initialized RX0, Cond.code yX0_keep cX0_keep 2 none, Cond.fieldLink RX0 11 "WrongWord$Acts" "ahead" "[LWrongWord$Moment;", Cond.fieldLink RX0 22 "WrongWord$Acts" "at" "I", Cond.fieldLink RX0 18 "WrongWord$Acts" "kept" "I", Cond.methodLink RX0 29 Lib.Math.min.name, Cond.static Lib.Math.min.name, Cond.initialized "java/lang/Math", Cond.code Lib.Math.min.name Lib.Math.min.code 2 (some .int), Cond.methodLink RX0 25 yX4_become, Cond.instanceMethod yX4_become, Cond.selects RX4 yX4_become yX4_become, Cond.initialized RX4, Cond.code yX4_become cX4_become 2 none, Cond.fieldLink RX4 24 "WrongWord$Moment" "night" "I", Cond.fieldLink RX4 34 "WrongWord$Moment" "start" "I", Cond.fieldLink RX4 28 "WrongWord$Moment" "there" "I", Cond.fieldLink RX4 31 "WrongWord$Moment" "tries" "I", Cond.fieldLink RX4 9 "WrongWord$Moment" "took" "[I", Cond.methodLink RX4 37 arraycopyName, Cond.native arraycopyName, Cond.static arraycopyName, Cond.initialized "java/lang/System"]
def wsX7_dismiss_r3 : List Cond := [Cond.fieldLink RX4 15 "WrongWord$Moment" "triedWord" "[I", Cond.fieldLink RX4 18 "WrongWord$Moment" "triedGuard" "[I", Cond.fieldLink RX4 21 "WrongWord$Moment" "triedTaken" "[I"]
def wsX7_dismiss : List Cond := .code yX7_dismiss cX7_dismiss 3 (some .int) :: ((wsX7_dismiss_r1 ++ (wsX7_dismiss_r2 ++ wsX7_dismiss_r3)) ++ wsX70 ++ wsX20 ++ wsX40 ++ wsX00)
def wsX7_undo_r1 : List Cond := [Cond.fieldLink RX7 32 "WrongWord" "acts" "LWrongWord$Acts;", Cond.fieldLink RX7 25 "WrongWord" "gate" "LWrongWord$Gate;", Cond.fieldLink RX7 137 "WrongWord$Gate" "now" "LWrongWord$Moment;", Cond.fieldLink RX7 197 "WrongWord$Acts" "kept" "I", Cond.constant RX7 136 (-1000002), Cond.methodLink RX7 193 yX0_takeBack, Cond.instanceMethod yX0_takeBack, Cond.selects RX0 yX0_takeBack yX0_takeBack, Cond.initialized RX0, Cond.code yX0_takeBack cX0_takeBack 2 (some .boolean), Cond.fieldLink RX0 18 "WrongWord$Acts" "kept" "I", Cond.fieldLink RX0 22 "WrongWord$Acts" "at" "I", Cond.fieldLink RX0 11 "WrongWord$Acts" "ahead" "[LWrongWord$Moment;", Cond.methodLink RX0 25 yX4_become, Cond.instanceMethod yX4_become, Cond.selects RX4 yX4_become yX4_become, Cond.initialized RX4, Cond.code yX4_become cX4_become 2 none, Cond.fieldLink RX4 24 "WrongWord$Moment" "night" "I", Cond.fieldLink RX4 34 "WrongWord$Moment" "start" "I", Cond.fieldLink RX4 28 "WrongWord$Moment" "there" "I", Cond.fieldLink RX4 31 "WrongWord$Moment" "tries" "I", Cond.fieldLink RX4 9 "WrongWord$Moment" "took" "[I", Cond.methodLink RX4 37 arraycopyName]
def wsX7_undo_r2 : List Cond := [Cond.native arraycopyName, Cond.static arraycopyName, Cond.initialized "java/lang/System", Cond.fieldLink RX4 15 "WrongWord$Moment" "triedWord" "[I", Cond.fieldLink RX4 18 "WrongWord$Moment" "triedGuard" "[I", Cond.fieldLink RX4 21 "WrongWord$Moment" "triedTaken" "[I"]
def wsX7_undo : List Cond := .code yX7_undo cX7_undo 1 (some .int) :: ((wsX7_undo_r1 ++ wsX7_undo_r2) ++ wsX70 ++ wsX20 ++ wsX00 ++ wsX40)
def wsX7_letter : List Cond := .code yX7_letter cX7_letter 3 (some .int) :: ([.constant RX7 59 (-1000001), .fieldLink RX7 25 "WrongWord" "gate" "LWrongWord$Gate;", .fieldLink RX7 200 "WrongWord$Gate" "letters" "[I", .methodLink RX7 156 yX7_isWord, .instanceMethod yX7_isWord, .selects RX7 yX7_isWord yX7_isWord, .initialized RX7, .code yX7_isWord cX7_isWord 2 (some .boolean), .fieldLink RX7 130 "WrongWord$Gate" "words" "I"] ++ wsX70 ++ wsX20)
def wsX7_like : List Cond := .code yX7_like cX7_like 4 (some .int) :: ([.constant RX7 59 (-1000001), .fieldLink RX7 25 "WrongWord" "gate" "LWrongWord$Gate;", .methodLink RX7 156 yX7_isWord, .instanceMethod yX7_isWord, .selects RX7 yX7_isWord yX7_isWord, .initialized RX7, .code yX7_isWord cX7_isWord 2 (some .boolean), .fieldLink RX7 130 "WrongWord$Gate" "words" "I", .methodLink RX7 203 yX2_distance, .instanceMethod yX2_distance, .selects RX2 yX2_distance yX2_distance, .initialized RX2, .code yX2_distance cX2_distance 5 (some .int), .fieldLink RX2 9 "WrongWord$Gate" "letters" "[I", .methodLink RX7 206 yX2_lips, .instanceMethod yX2_lips, .selects RX2 yX2_lips yX2_lips, .code yX2_lips cX2_lips 5 (some .int)] ++ wsX70 ++ wsX20)
def wsX7_guard_r1 : List Cond := [Cond.constant RX7 59 (-1000001), Cond.fieldLink RX7 25 "WrongWord" "gate" "LWrongWord$Gate;", Cond.fieldLink RX7 209 "WrongWord$Gate" "fees" "[I", Cond.fieldLink RX7 137 "WrongWord$Gate" "now" "LWrongWord$Moment;", Cond.fieldLink RX7 212 "WrongWord$Moment" "took" "[I", Cond.methodLink RX7 187 yX7_isGuard, Cond.instanceMethod yX7_isGuard, Cond.selects RX7 yX7_isGuard yX7_isGuard, Cond.initialized RX7, Cond.code yX7_isGuard cX7_isGuard 2 (some .boolean), Cond.fieldLink RX7 327 "WrongWord$Gate" "guards" "I", Cond.methodLink RX7 172 yX2_isThere, Cond.instanceMethod yX2_isThere, Cond.selects RX2 yX2_isThere yX2_isThere, Cond.initialized RX2, Cond.code yX2_isThere cX2_isThere 2 (some .boolean), Cond.fieldLink RX2 24 "WrongWord$Gate" "now" "LWrongWord$Moment;", Cond.fieldLink RX2 65 "WrongWord$Moment" "there" "I", Cond.methodLink RX7 180 yX7_bit, Cond.static yX7_bit, Cond.code yX7_bit cX7_bit 1 (some .int), Cond.methodLink RX7 215 yX2_hoursOf, Cond.instanceMethod yX2_hoursOf, Cond.selects RX2 yX2_hoursOf yX2_hoursOf]
def wsX7_guard_r2 : List Cond := [Cond.code yX2_hoursOf cX2_hoursOf 4 (some .int), Cond.fieldLink RX2 58 "WrongWord$Moment" "night" "I", Cond.methodLink RX2 74 yX2_guardOn, Cond.instanceMethod yX2_guardOn, Cond.selects RX2 yX2_guardOn yX2_guardOn, Cond.code yX2_guardOn cX2_guardOn 3 (some .int), Cond.fieldLink RX2 48 "WrongWord$Gate" "guards" "I", Cond.static yX7_rest, Cond.code yX7_rest cX7_rest 2 (some .int)]
def wsX7_guard : List Cond := .code yX7_guard cX7_guard 3 (some .int) :: ((wsX7_guard_r1 ++ wsX7_guard_r2) ++ wsX70 ++ wsX20 ++ wsX40)
def wsX7_tried : List Cond := .code yX7_tried cX7_tried 3 (some .int) :: ([.fieldLink RX7 25 "WrongWord" "gate" "LWrongWord$Gate;", .fieldLink RX7 137 "WrongWord$Gate" "now" "LWrongWord$Moment;", .fieldLink RX7 162 "WrongWord$Moment" "tries" "I", .constant RX7 59 (-1000001), .fieldLink RX7 218 "WrongWord$Moment" "triedWord" "[I", .fieldLink RX7 221 "WrongWord$Moment" "triedGuard" "[I", .fieldLink RX7 224 "WrongWord$Moment" "triedTaken" "[I"] ++ wsX70 ++ wsX20 ++ wsX40)
def wsX7_isAhead : List Cond := .code yX7_isAhead cX7_isAhead 2 (some .boolean) :: ([])
def wsX7_secret_r1 : List Cond := [Cond.constant RX7 136 (-1000002), Cond.fieldLink RX7 25 "WrongWord" "gate" "LWrongWord$Gate;", Cond.constant RX7 59 (-1000001), Cond.methodLink RX7 133 yX7_noGate, Cond.instanceMethod yX7_noGate, Cond.selects RX7 yX7_noGate yX7_noGate, Cond.initialized RX7, Cond.code yX7_noGate cX7_noGate 1 (some .boolean), Cond.fieldLink RX7 130 "WrongWord$Gate" "words" "I", Cond.methodLink RX7 227 yX7_isAhead, Cond.instanceMethod yX7_isAhead, Cond.selects RX7 yX7_isAhead yX7_isAhead, Cond.code yX7_isAhead cX7_isAhead 2 (some .boolean), Cond.methodLink RX7 153 yX2_secretIn, Cond.instanceMethod yX2_secretIn, Cond.selects RX2 yX2_secretIn yX2_secretIn, Cond.initialized RX2, Cond.code yX2_secretIn cX2_secretIn 2 (some .int), Cond.fieldLink RX2 24 "WrongWord$Gate" "now" "LWrongWord$Moment;", Cond.fieldLink RX2 55 "WrongWord$Moment" "start" "I", Cond.fieldLink RX2 38 "WrongWord$Gate" "step" "I", Cond.fieldLink RX2 42 "WrongWord$Gate" "shrove" "I", Cond.fieldLink RX2 58 "WrongWord$Moment" "night" "I", Cond.methodLink RX2 61 yX2_secretBy]
def wsX7_secret_r2 : List Cond := [Cond.instanceMethod yX2_secretBy, Cond.selects RX2 yX2_secretBy yX2_secretBy, Cond.code yX2_secretBy cX2_secretBy 5 (some .int), Cond.fieldLink RX2 45 "WrongWord$Gate" "words" "I", Cond.static yX7_rest, Cond.code yX7_rest cX7_rest 2 (some .int)]
def wsX7_secret : List Cond := .code yX7_secret cX7_secret 2 (some .int) :: ((wsX7_secret_r1 ++ wsX7_secret_r2) ++ wsX70 ++ wsX20 ++ wsX40)
def wsX7_taken_r1 : List Cond := [Cond.constant RX7 59 (-1000001), Cond.fieldLink RX7 25 "WrongWord" "gate" "LWrongWord$Gate;", Cond.methodLink RX7 156 yX7_isWord, Cond.instanceMethod yX7_isWord, Cond.selects RX7 yX7_isWord yX7_isWord, Cond.initialized RX7, Cond.code yX7_isWord cX7_isWord 2 (some .boolean), Cond.fieldLink RX7 130 "WrongWord$Gate" "words" "I", Cond.methodLink RX7 159 yX7_isHour, Cond.instanceMethod yX7_isHour, Cond.selects RX7 yX7_isHour yX7_isHour, Cond.code yX7_isHour cX7_isHour 2 (some .boolean), Cond.methodLink RX7 227 yX7_isAhead, Cond.instanceMethod yX7_isAhead, Cond.selects RX7 yX7_isAhead yX7_isAhead, Cond.code yX7_isAhead cX7_isAhead 2 (some .boolean), Cond.methodLink RX7 168 yX2_catches, Cond.instanceMethod yX2_catches, Cond.selects RX2 yX2_catches yX2_catches, Cond.initialized RX2, Cond.code yX2_catches cX2_catches 4 (some .boolean), Cond.fieldLink RX2 24 "WrongWord$Gate" "now" "LWrongWord$Moment;", Cond.fieldLink RX2 58 "WrongWord$Moment" "night" "I", Cond.methodLink RX2 85 yX2_secretIn]
def wsX7_taken_r2 : List Cond := [Cond.instanceMethod yX2_secretIn, Cond.selects RX2 yX2_secretIn yX2_secretIn, Cond.code yX2_secretIn cX2_secretIn 2 (some .int), Cond.fieldLink RX2 55 "WrongWord$Moment" "start" "I", Cond.fieldLink RX2 38 "WrongWord$Gate" "step" "I", Cond.fieldLink RX2 42 "WrongWord$Gate" "shrove" "I", Cond.methodLink RX2 61 yX2_secretBy, Cond.instanceMethod yX2_secretBy, Cond.selects RX2 yX2_secretBy yX2_secretBy, Cond.code yX2_secretBy cX2_secretBy 5 (some .int), Cond.fieldLink RX2 45 "WrongWord$Gate" "words" "I", Cond.static yX7_rest, Cond.code yX7_rest cX7_rest 2 (some .int), Cond.methodLink RX2 89 yX2_catchesIf, Cond.instanceMethod yX2_catchesIf, Cond.selects RX2 yX2_catchesIf yX2_catchesIf, Cond.code yX2_catchesIf cX2_catchesIf 6 (some .boolean), Cond.fieldLink RX2 15 "WrongWord$Gate" "kinds" "[I", Cond.methodLink RX2 74 yX2_guardOn, Cond.instanceMethod yX2_guardOn, Cond.selects RX2 yX2_guardOn yX2_guardOn, Cond.code yX2_guardOn cX2_guardOn 3 (some .int), Cond.fieldLink RX2 48 "WrongWord$Gate" "guards" "I", Cond.methodLink RX2 77 yX2_isThere]
def wsX7_taken_r3 : List Cond := [Cond.instanceMethod yX2_isThere, Cond.selects RX2 yX2_isThere yX2_isThere, Cond.code yX2_isThere cX2_isThere 2 (some .boolean), Cond.fieldLink RX2 65 "WrongWord$Moment" "there" "I", Cond.methodLink RX2 81 yX2_wouldTake, Cond.instanceMethod yX2_wouldTake, Cond.selects RX2 yX2_wouldTake yX2_wouldTake, Cond.code yX2_wouldTake cX2_wouldTake 5 (some .boolean), Cond.methodLink RX2 68 yX2_distance, Cond.instanceMethod yX2_distance, Cond.selects RX2 yX2_distance yX2_distance, Cond.code yX2_distance cX2_distance 5 (some .int), Cond.fieldLink RX2 9 "WrongWord$Gate" "letters" "[I", Cond.methodLink RX2 71 yX2_lips, Cond.instanceMethod yX2_lips, Cond.selects RX2 yX2_lips yX2_lips, Cond.code yX2_lips cX2_lips 5 (some .int), Cond.methodLink RX7 180 yX7_bit, Cond.static yX7_bit, Cond.code yX7_bit cX7_bit 1 (some .int)]
def wsX7_taken : List Cond := .code yX7_taken cX7_taken 4 (some .int) :: ((wsX7_taken_r1 ++ (wsX7_taken_r2 ++ wsX7_taken_r3)) ++ wsX70 ++ wsX20 ++ wsX40)
def wsX7_safe_r1 : List Cond := [Cond.constant RX7 136 (-1000002), Cond.fieldLink RX7 25 "WrongWord" "gate" "LWrongWord$Gate;", Cond.constant RX7 59 (-1000001), Cond.methodLink RX7 133 yX7_noGate, Cond.instanceMethod yX7_noGate, Cond.selects RX7 yX7_noGate yX7_noGate, Cond.initialized RX7, Cond.code yX7_noGate cX7_noGate 1 (some .boolean), Cond.fieldLink RX7 130 "WrongWord$Gate" "words" "I", Cond.methodLink RX7 159 yX7_isHour, Cond.instanceMethod yX7_isHour, Cond.selects RX7 yX7_isHour yX7_isHour, Cond.code yX7_isHour cX7_isHour 2 (some .boolean), Cond.methodLink RX7 227 yX7_isAhead, Cond.instanceMethod yX7_isAhead, Cond.selects RX7 yX7_isAhead yX7_isAhead, Cond.code yX7_isAhead cX7_isAhead 2 (some .boolean), Cond.methodLink RX7 230 yX2_wordsIn, Cond.instanceMethod yX2_wordsIn, Cond.selects RX2 yX2_wordsIn yX2_wordsIn, Cond.initialized RX2, Cond.code yX2_wordsIn cX2_wordsIn 5 (some .int), Cond.fieldLink RX2 45 "WrongWord$Gate" "words" "I", Cond.methodLink RX2 96 yX2_catches]
def wsX7_safe_r2 : List Cond := [Cond.instanceMethod yX2_catches, Cond.selects RX2 yX2_catches yX2_catches, Cond.code yX2_catches cX2_catches 4 (some .boolean), Cond.fieldLink RX2 24 "WrongWord$Gate" "now" "LWrongWord$Moment;", Cond.fieldLink RX2 58 "WrongWord$Moment" "night" "I", Cond.methodLink RX2 85 yX2_secretIn, Cond.instanceMethod yX2_secretIn, Cond.selects RX2 yX2_secretIn yX2_secretIn, Cond.code yX2_secretIn cX2_secretIn 2 (some .int), Cond.fieldLink RX2 55 "WrongWord$Moment" "start" "I", Cond.fieldLink RX2 38 "WrongWord$Gate" "step" "I", Cond.fieldLink RX2 42 "WrongWord$Gate" "shrove" "I", Cond.methodLink RX2 61 yX2_secretBy, Cond.instanceMethod yX2_secretBy, Cond.selects RX2 yX2_secretBy yX2_secretBy, Cond.code yX2_secretBy cX2_secretBy 5 (some .int), Cond.static yX7_rest, Cond.code yX7_rest cX7_rest 2 (some .int), Cond.methodLink RX2 89 yX2_catchesIf, Cond.instanceMethod yX2_catchesIf, Cond.selects RX2 yX2_catchesIf yX2_catchesIf, Cond.code yX2_catchesIf cX2_catchesIf 6 (some .boolean), Cond.fieldLink RX2 15 "WrongWord$Gate" "kinds" "[I", Cond.methodLink RX2 74 yX2_guardOn]
def wsX7_safe_r3 : List Cond := [Cond.instanceMethod yX2_guardOn, Cond.selects RX2 yX2_guardOn yX2_guardOn, Cond.code yX2_guardOn cX2_guardOn 3 (some .int), Cond.fieldLink RX2 48 "WrongWord$Gate" "guards" "I", Cond.methodLink RX2 77 yX2_isThere, Cond.instanceMethod yX2_isThere, Cond.selects RX2 yX2_isThere yX2_isThere, Cond.code yX2_isThere cX2_isThere 2 (some .boolean), Cond.fieldLink RX2 65 "WrongWord$Moment" "there" "I", Cond.methodLink RX2 81 yX2_wouldTake, Cond.instanceMethod yX2_wouldTake, Cond.selects RX2 yX2_wouldTake yX2_wouldTake, Cond.code yX2_wouldTake cX2_wouldTake 5 (some .boolean), Cond.methodLink RX2 68 yX2_distance, Cond.instanceMethod yX2_distance, Cond.selects RX2 yX2_distance yX2_distance, Cond.code yX2_distance cX2_distance 5 (some .int), Cond.fieldLink RX2 9 "WrongWord$Gate" "letters" "[I", Cond.methodLink RX2 71 yX2_lips, Cond.instanceMethod yX2_lips, Cond.selects RX2 yX2_lips yX2_lips, Cond.code yX2_lips cX2_lips 5 (some .int), Cond.static yX7_bit, Cond.code yX7_bit cX7_bit 1 (some .int)]
def wsX7_safe : List Cond := .code yX7_safe cX7_safe 3 (some .int) :: ((wsX7_safe_r1 ++ (wsX7_safe_r2 ++ wsX7_safe_r3)) ++ wsX70 ++ wsX20 ++ wsX40)
def wsX7_areWords : List Cond := .code yX7_areWords cX7_areWords 2 (some .boolean) :: ([.fieldLink RX7 25 "WrongWord" "gate" "LWrongWord$Gate;", .fieldLink RX7 130 "WrongWord$Gate" "words" "I"] ++ wsX70 ++ wsX20)
def wsX7_open_r1 : List Cond := [Cond.constant RX7 136 (-1000002), Cond.fieldLink RX7 25 "WrongWord" "gate" "LWrongWord$Gate;", Cond.constant RX7 59 (-1000001), Cond.methodLink RX7 133 yX7_noGate, Cond.instanceMethod yX7_noGate, Cond.selects RX7 yX7_noGate yX7_noGate, Cond.initialized RX7, Cond.code yX7_noGate cX7_noGate 1 (some .boolean), Cond.fieldLink RX7 130 "WrongWord$Gate" "words" "I", Cond.methodLink RX7 233 yX7_areWords, Cond.instanceMethod yX7_areWords, Cond.selects RX7 yX7_areWords yX7_areWords, Cond.code yX7_areWords cX7_areWords 2 (some .boolean), Cond.methodLink RX7 227 yX7_isAhead, Cond.instanceMethod yX7_isAhead, Cond.selects RX7 yX7_isAhead yX7_isAhead, Cond.code yX7_isAhead cX7_isAhead 2 (some .boolean), Cond.methodLink RX7 236 yX2_hoursOpen, Cond.instanceMethod yX2_hoursOpen, Cond.selects RX2 yX2_hoursOpen yX2_hoursOpen, Cond.initialized RX2, Cond.code yX2_hoursOpen cX2_hoursOpen 5 (some .int), Cond.methodLink RX2 100 yX2_wordsIn, Cond.instanceMethod yX2_wordsIn]
def wsX7_open_r2 : List Cond := [Cond.selects RX2 yX2_wordsIn yX2_wordsIn, Cond.code yX2_wordsIn cX2_wordsIn 5 (some .int), Cond.fieldLink RX2 45 "WrongWord$Gate" "words" "I", Cond.methodLink RX2 96 yX2_catches, Cond.instanceMethod yX2_catches, Cond.selects RX2 yX2_catches yX2_catches, Cond.code yX2_catches cX2_catches 4 (some .boolean), Cond.fieldLink RX2 24 "WrongWord$Gate" "now" "LWrongWord$Moment;", Cond.fieldLink RX2 58 "WrongWord$Moment" "night" "I", Cond.methodLink RX2 85 yX2_secretIn, Cond.instanceMethod yX2_secretIn, Cond.selects RX2 yX2_secretIn yX2_secretIn, Cond.code yX2_secretIn cX2_secretIn 2 (some .int), Cond.fieldLink RX2 55 "WrongWord$Moment" "start" "I", Cond.fieldLink RX2 38 "WrongWord$Gate" "step" "I", Cond.fieldLink RX2 42 "WrongWord$Gate" "shrove" "I", Cond.methodLink RX2 61 yX2_secretBy, Cond.instanceMethod yX2_secretBy, Cond.selects RX2 yX2_secretBy yX2_secretBy, Cond.code yX2_secretBy cX2_secretBy 5 (some .int), Cond.static yX7_rest, Cond.code yX7_rest cX7_rest 2 (some .int), Cond.methodLink RX2 89 yX2_catchesIf, Cond.instanceMethod yX2_catchesIf]
def wsX7_open_r3 : List Cond := [Cond.selects RX2 yX2_catchesIf yX2_catchesIf, Cond.code yX2_catchesIf cX2_catchesIf 6 (some .boolean), Cond.fieldLink RX2 15 "WrongWord$Gate" "kinds" "[I", Cond.methodLink RX2 74 yX2_guardOn, Cond.instanceMethod yX2_guardOn, Cond.selects RX2 yX2_guardOn yX2_guardOn, Cond.code yX2_guardOn cX2_guardOn 3 (some .int), Cond.fieldLink RX2 48 "WrongWord$Gate" "guards" "I", Cond.methodLink RX2 77 yX2_isThere, Cond.instanceMethod yX2_isThere, Cond.selects RX2 yX2_isThere yX2_isThere, Cond.code yX2_isThere cX2_isThere 2 (some .boolean), Cond.fieldLink RX2 65 "WrongWord$Moment" "there" "I", Cond.methodLink RX2 81 yX2_wouldTake, Cond.instanceMethod yX2_wouldTake, Cond.selects RX2 yX2_wouldTake yX2_wouldTake, Cond.code yX2_wouldTake cX2_wouldTake 5 (some .boolean), Cond.methodLink RX2 68 yX2_distance, Cond.instanceMethod yX2_distance, Cond.selects RX2 yX2_distance yX2_distance, Cond.code yX2_distance cX2_distance 5 (some .int), Cond.fieldLink RX2 9 "WrongWord$Gate" "letters" "[I", Cond.methodLink RX2 71 yX2_lips, Cond.instanceMethod yX2_lips]
def wsX7_open_r4 : List Cond := [Cond.selects RX2 yX2_lips yX2_lips, Cond.code yX2_lips cX2_lips 5 (some .int), Cond.static yX7_bit, Cond.code yX7_bit cX7_bit 1 (some .int)]
def wsX7_open : List Cond := .code yX7_open cX7_open 3 (some .int) :: ((wsX7_open_r1 ++ (wsX7_open_r2 ++ (wsX7_open_r3 ++ wsX7_open_r4))) ++ wsX70 ++ wsX20 ++ wsX40)
def wsX7_next_r1 : List Cond := [Cond.fieldLink RX7 25 "WrongWord" "gate" "LWrongWord$Gate;", Cond.constant RX7 59 (-1000001), Cond.methodLink RX7 156 yX7_isWord, Cond.instanceMethod yX7_isWord, Cond.selects RX7 yX7_isWord yX7_isWord, Cond.initialized RX7, Cond.code yX7_isWord cX7_isWord 2 (some .boolean), Cond.fieldLink RX7 130 "WrongWord$Gate" "words" "I", Cond.methodLink RX7 239 yX2_nightsUntil, Cond.instanceMethod yX2_nightsUntil, Cond.selects RX2 yX2_nightsUntil yX2_nightsUntil, Cond.initialized RX2, Cond.code yX2_nightsUntil cX2_nightsUntil 3 (some .int), Cond.constant RX2 103 (-1000000), Cond.methodLink RX2 85 yX2_secretIn, Cond.instanceMethod yX2_secretIn, Cond.selects RX2 yX2_secretIn yX2_secretIn, Cond.code yX2_secretIn cX2_secretIn 2 (some .int), Cond.fieldLink RX2 24 "WrongWord$Gate" "now" "LWrongWord$Moment;", Cond.fieldLink RX2 55 "WrongWord$Moment" "start" "I", Cond.fieldLink RX2 38 "WrongWord$Gate" "step" "I", Cond.fieldLink RX2 42 "WrongWord$Gate" "shrove" "I", Cond.fieldLink RX2 58 "WrongWord$Moment" "night" "I", Cond.methodLink RX2 61 yX2_secretBy]
def wsX7_next_r2 : List Cond := [Cond.instanceMethod yX2_secretBy, Cond.selects RX2 yX2_secretBy yX2_secretBy, Cond.code yX2_secretBy cX2_secretBy 5 (some .int), Cond.fieldLink RX2 45 "WrongWord$Gate" "words" "I", Cond.static yX7_rest, Cond.code yX7_rest cX7_rest 2 (some .int)]
def wsX7_next : List Cond := .code yX7_next cX7_next 2 (some .int) :: ((wsX7_next_r1 ++ wsX7_next_r2) ++ wsX70 ++ wsX20 ++ wsX40)
def wsX7_agree_r1 : List Cond := [Cond.constant RX7 136 (-1000002), Cond.fieldLink RX7 25 "WrongWord" "gate" "LWrongWord$Gate;", Cond.methodLink RX7 133 yX7_noGate, Cond.instanceMethod yX7_noGate, Cond.selects RX7 yX7_noGate yX7_noGate, Cond.initialized RX7, Cond.code yX7_noGate cX7_noGate 1 (some .boolean), Cond.fieldLink RX7 130 "WrongWord$Gate" "words" "I", Cond.methodLink RX7 242 yX3_agreeing, Cond.static yX3_agreeing, Cond.initialized RX3, Cond.code yX3_agreeing cX3_agreeing 3 (some .int), Cond.fieldLink RX3 18 "WrongWord$Gate" "words" "I", Cond.methodLink RX3 24 yX3_agreesWithTries, Cond.static yX3_agreesWithTries, Cond.code yX3_agreesWithTries cX3_agreesWithTries 6 (some .boolean), Cond.fieldLink RX3 32 "WrongWord$Gate" "now" "LWrongWord$Moment;", Cond.fieldLink RX3 36 "WrongWord$Moment" "tries" "I", Cond.fieldLink RX3 41 "WrongWord$Moment" "triedGuard" "[I", Cond.fieldLink RX3 44 "WrongWord$Gate" "guards" "I", Cond.fieldLink RX3 47 "WrongWord$Gate" "kinds" "[I", Cond.fieldLink RX3 50 "WrongWord$Moment" "triedWord" "[I", Cond.fieldLink RX3 53 "WrongWord$Moment" "night" "I", Cond.fieldLink RX3 60 "WrongWord$Moment" "triedTaken" "[I"]
def wsX7_agree_r2 : List Cond := [Cond.methodLink RX3 56 yX2_wouldTake, Cond.instanceMethod yX2_wouldTake, Cond.selects RX2 yX2_wouldTake yX2_wouldTake, Cond.initialized RX2, Cond.code yX2_wouldTake cX2_wouldTake 5 (some .boolean), Cond.methodLink RX2 68 yX2_distance, Cond.instanceMethod yX2_distance, Cond.selects RX2 yX2_distance yX2_distance, Cond.code yX2_distance cX2_distance 5 (some .int), Cond.fieldLink RX2 9 "WrongWord$Gate" "letters" "[I", Cond.methodLink RX2 71 yX2_lips, Cond.instanceMethod yX2_lips, Cond.selects RX2 yX2_lips yX2_lips, Cond.code yX2_lips cX2_lips 5 (some .int), Cond.static yX7_bit, Cond.code yX7_bit cX7_bit 1 (some .int)]
def wsX7_agree : List Cond := .code yX7_agree cX7_agree 1 (some .int) :: ((wsX7_agree_r1 ++ wsX7_agree_r2) ++ wsX70 ++ wsX20 ++ wsX40)
def wsX7_man_r1 : List Cond := [Cond.constant RX7 136 (-1000002), Cond.constant RX7 59 (-1000001), Cond.fieldLink RX7 25 "WrongWord" "gate" "LWrongWord$Gate;", Cond.methodLink RX7 133 yX7_noGate, Cond.instanceMethod yX7_noGate, Cond.selects RX7 yX7_noGate yX7_noGate, Cond.initialized RX7, Cond.code yX7_noGate cX7_noGate 1 (some .boolean), Cond.fieldLink RX7 130 "WrongWord$Gate" "words" "I", Cond.methodLink RX7 242 yX3_agreeing, Cond.static yX3_agreeing, Cond.initialized RX3, Cond.code yX3_agreeing cX3_agreeing 3 (some .int), Cond.fieldLink RX3 18 "WrongWord$Gate" "words" "I", Cond.methodLink RX3 24 yX3_agreesWithTries, Cond.static yX3_agreesWithTries, Cond.code yX3_agreesWithTries cX3_agreesWithTries 6 (some .boolean), Cond.fieldLink RX3 32 "WrongWord$Gate" "now" "LWrongWord$Moment;", Cond.fieldLink RX3 36 "WrongWord$Moment" "tries" "I", Cond.fieldLink RX3 41 "WrongWord$Moment" "triedGuard" "[I", Cond.fieldLink RX3 44 "WrongWord$Gate" "guards" "I", Cond.fieldLink RX3 47 "WrongWord$Gate" "kinds" "[I", Cond.fieldLink RX3 50 "WrongWord$Moment" "triedWord" "[I", Cond.fieldLink RX3 53 "WrongWord$Moment" "night" "I"]
def wsX7_man_r2 : List Cond := [Cond.fieldLink RX3 60 "WrongWord$Moment" "triedTaken" "[I", Cond.methodLink RX3 56 yX2_wouldTake, Cond.instanceMethod yX2_wouldTake, Cond.selects RX2 yX2_wouldTake yX2_wouldTake, Cond.initialized RX2, Cond.code yX2_wouldTake cX2_wouldTake 5 (some .boolean), Cond.methodLink RX2 68 yX2_distance, Cond.instanceMethod yX2_distance, Cond.selects RX2 yX2_distance yX2_distance, Cond.code yX2_distance cX2_distance 5 (some .int), Cond.fieldLink RX2 9 "WrongWord$Gate" "letters" "[I", Cond.methodLink RX2 71 yX2_lips, Cond.instanceMethod yX2_lips, Cond.selects RX2 yX2_lips yX2_lips, Cond.code yX2_lips cX2_lips 5 (some .int), Cond.static yX7_bit, Cond.code yX7_bit cX7_bit 1 (some .int), Cond.methodLink RX7 246 yX3_bestTry, Cond.static yX3_bestTry, Cond.code yX3_bestTry cX3_bestTry 6 (some .int), Cond.methodLink RX3 82 yX3_leftAtWorst, Cond.static yX3_leftAtWorst, Cond.code yX3_leftAtWorst cX3_leftAtWorst 4 (some .int), Cond.methodLink RX3 76 Lib.Math.max.name]
def wsX7_man_r3 : List Cond := [Cond.static Lib.Math.max.name, Cond.initialized "java/lang/Math", Cond.code Lib.Math.max.name Lib.Math.max.code 2 (some .int), Cond.methodLink RX3 66 yX3_secretsCatching, Cond.static yX3_secretsCatching, Cond.code yX3_secretsCatching cX3_secretsCatching 5 (some .int), Cond.methodLink RX3 63 yX2_catchesIf, Cond.instanceMethod yX2_catchesIf, Cond.selects RX2 yX2_catchesIf yX2_catchesIf, Cond.code yX2_catchesIf cX2_catchesIf 6 (some .boolean), Cond.fieldLink RX2 15 "WrongWord$Gate" "kinds" "[I", Cond.methodLink RX2 74 yX2_guardOn, Cond.instanceMethod yX2_guardOn, Cond.selects RX2 yX2_guardOn yX2_guardOn, Cond.code yX2_guardOn cX2_guardOn 3 (some .int), Cond.fieldLink RX2 48 "WrongWord$Gate" "guards" "I", Cond.static yX7_rest, Cond.code yX7_rest cX7_rest 2 (some .int), Cond.methodLink RX2 77 yX2_isThere, Cond.instanceMethod yX2_isThere, Cond.selects RX2 yX2_isThere yX2_isThere, Cond.code yX2_isThere cX2_isThere 2 (some .boolean), Cond.fieldLink RX2 24 "WrongWord$Gate" "now" "LWrongWord$Moment;", Cond.fieldLink RX2 65 "WrongWord$Moment" "there" "I"]
def wsX7_man_r4 : List Cond := [Cond.methodLink RX2 81 yX2_wouldTake, Cond.methodLink RX3 70 yJ6_bitCount_0f7a4, Cond.static yJ6_bitCount_0f7a4, Cond.initialized RJ6, Cond.code yJ6_bitCount_0f7a4 cJ6_bitCount_0f7a4 1 (some .int), Cond.constant RJ6 265 (1431655765), Cond.constant RJ6 266 (858993459), Cond.constant RJ6 267 (252645135), Cond.methodLink RX7 250 yX3_leftAtWorst]
def wsX7_man : List Cond := .code yX7_man cX7_man 4 (some .int) :: ((wsX7_man_r1 ++ (wsX7_man_r2 ++ (wsX7_man_r3 ++ wsX7_man_r4))) ++ wsX70 ++ wsX20 ++ wsX40)
def wsX7_fewest_r1 : List Cond := [Cond.constant RX7 136 (-1000002), Cond.fieldLink RX7 43 "WrongWord" "guesses" "LWrongWord$Guesses;", Cond.fieldLink RX7 25 "WrongWord" "gate" "LWrongWord$Gate;", Cond.methodLink RX7 133 yX7_noGate, Cond.instanceMethod yX7_noGate, Cond.selects RX7 yX7_noGate yX7_noGate, Cond.initialized RX7, Cond.code yX7_noGate cX7_noGate 1 (some .boolean), Cond.fieldLink RX7 130 "WrongWord$Gate" "words" "I", Cond.methodLink RX7 242 yX3_agreeing, Cond.static yX3_agreeing, Cond.initialized RX3, Cond.code yX3_agreeing cX3_agreeing 3 (some .int), Cond.fieldLink RX3 18 "WrongWord$Gate" "words" "I", Cond.methodLink RX3 24 yX3_agreesWithTries, Cond.static yX3_agreesWithTries, Cond.code yX3_agreesWithTries cX3_agreesWithTries 6 (some .boolean), Cond.fieldLink RX3 32 "WrongWord$Gate" "now" "LWrongWord$Moment;", Cond.fieldLink RX3 36 "WrongWord$Moment" "tries" "I", Cond.fieldLink RX3 41 "WrongWord$Moment" "triedGuard" "[I", Cond.fieldLink RX3 44 "WrongWord$Gate" "guards" "I", Cond.fieldLink RX3 47 "WrongWord$Gate" "kinds" "[I", Cond.fieldLink RX3 50 "WrongWord$Moment" "triedWord" "[I", Cond.fieldLink RX3 53 "WrongWord$Moment" "night" "I"]
def wsX7_fewest_r2 : List Cond := [Cond.fieldLink RX3 60 "WrongWord$Moment" "triedTaken" "[I", Cond.methodLink RX3 56 yX2_wouldTake, Cond.instanceMethod yX2_wouldTake, Cond.selects RX2 yX2_wouldTake yX2_wouldTake, Cond.initialized RX2, Cond.code yX2_wouldTake cX2_wouldTake 5 (some .boolean), Cond.methodLink RX2 68 yX2_distance, Cond.instanceMethod yX2_distance, Cond.selects RX2 yX2_distance yX2_distance, Cond.code yX2_distance cX2_distance 5 (some .int), Cond.fieldLink RX2 9 "WrongWord$Gate" "letters" "[I", Cond.methodLink RX2 71 yX2_lips, Cond.instanceMethod yX2_lips, Cond.selects RX2 yX2_lips yX2_lips, Cond.code yX2_lips cX2_lips 5 (some .int), Cond.static yX7_bit, Cond.code yX7_bit cX7_bit 1 (some .int), Cond.methodLink RX7 254 yX3_fewestMen, Cond.instanceMethod yX3_fewestMen, Cond.selects RX3 yX3_fewestMen yX3_fewestMen, Cond.code yX3_fewestMen cX3_fewestMen 5 (some .int), Cond.fieldLink RX3 9 "WrongWord$Guesses" "catching" "[I", Cond.fieldLink RX3 15 "WrongWord$Guesses" "menFor" "[I", Cond.constant RX3 88 (-1000000)]
def wsX7_fewest_r3 : List Cond := [Cond.methodLink RX3 66 yX3_secretsCatching, Cond.static yX3_secretsCatching, Cond.code yX3_secretsCatching cX3_secretsCatching 5 (some .int), Cond.methodLink RX3 63 yX2_catchesIf, Cond.instanceMethod yX2_catchesIf, Cond.selects RX2 yX2_catchesIf yX2_catchesIf, Cond.code yX2_catchesIf cX2_catchesIf 6 (some .boolean), Cond.fieldLink RX2 15 "WrongWord$Gate" "kinds" "[I", Cond.methodLink RX2 74 yX2_guardOn, Cond.instanceMethod yX2_guardOn, Cond.selects RX2 yX2_guardOn yX2_guardOn, Cond.code yX2_guardOn cX2_guardOn 3 (some .int), Cond.fieldLink RX2 48 "WrongWord$Gate" "guards" "I", Cond.static yX7_rest, Cond.code yX7_rest cX7_rest 2 (some .int), Cond.methodLink RX2 77 yX2_isThere, Cond.instanceMethod yX2_isThere, Cond.selects RX2 yX2_isThere yX2_isThere, Cond.code yX2_isThere cX2_isThere 2 (some .boolean), Cond.fieldLink RX2 24 "WrongWord$Gate" "now" "LWrongWord$Moment;", Cond.fieldLink RX2 65 "WrongWord$Moment" "there" "I", Cond.methodLink RX2 81 yX2_wouldTake, Cond.methodLink RX3 70 yJ6_bitCount_0f7a4, Cond.static yJ6_bitCount_0f7a4]
def wsX7_fewest_r4 : List Cond := [Cond.initialized RJ6, Cond.code yJ6_bitCount_0f7a4 cJ6_bitCount_0f7a4 1 (some .int), Cond.constant RJ6 265 (1431655765), Cond.constant RJ6 266 (858993459), Cond.constant RJ6 267 (252645135), Cond.methodLink RX3 85 yX3_menToSplit, Cond.instanceMethod yX3_menToSplit, Cond.selects RX3 yX3_menToSplit yX3_menToSplit, Cond.code yX3_menToSplit cX3_menToSplit 6 (some .int), Cond.methodLink RX3 76 Lib.Math.max.name, Cond.static Lib.Math.max.name, Cond.initialized "java/lang/Math", Cond.code Lib.Math.max.name Lib.Math.max.code 2 (some .int), Cond.methodLink RX3 89 Lib.Math.min.name, Cond.static Lib.Math.min.name, Cond.code Lib.Math.min.name Lib.Math.min.code 2 (some .int)]
def wsX7_fewest : List Cond := .code yX7_fewest cX7_fewest 1 (some .int) :: ((wsX7_fewest_r1 ++ (wsX7_fewest_r2 ++ (wsX7_fewest_r3 ++ wsX7_fewest_r4))) ++ wsX70 ++ wsX20 ++ wsX40 ++ wsX30)
def wsX7_hourOfLast_r1 : List Cond := [Cond.fieldLink RX7 86 "WrongWord$Row" "items" "[I", Cond.fieldLink RX7 25 "WrongWord" "gate" "LWrongWord$Gate;", Cond.constant RX7 175 (-1000000), Cond.methodLink RX7 156 yX7_isWord, Cond.instanceMethod yX7_isWord, Cond.selects RX7 yX7_isWord yX7_isWord, Cond.initialized RX7, Cond.code yX7_isWord cX7_isWord 2 (some .boolean), Cond.fieldLink RX7 130 "WrongWord$Gate" "words" "I", Cond.methodLink RX7 337 yX2_hourIn, Cond.instanceMethod yX2_hourIn, Cond.selects RX2 yX2_hourIn yX2_hourIn, Cond.initialized RX2, Cond.code yX2_hourIn cX2_hourIn 4 (some .int), Cond.constant RX2 103 (-1000000), Cond.methodLink RX2 96 yX2_catches, Cond.instanceMethod yX2_catches, Cond.selects RX2 yX2_catches yX2_catches, Cond.code yX2_catches cX2_catches 4 (some .boolean), Cond.fieldLink RX2 24 "WrongWord$Gate" "now" "LWrongWord$Moment;", Cond.fieldLink RX2 58 "WrongWord$Moment" "night" "I", Cond.methodLink RX2 85 yX2_secretIn, Cond.instanceMethod yX2_secretIn, Cond.selects RX2 yX2_secretIn yX2_secretIn]
def wsX7_hourOfLast_r2 : List Cond := [Cond.code yX2_secretIn cX2_secretIn 2 (some .int), Cond.fieldLink RX2 55 "WrongWord$Moment" "start" "I", Cond.fieldLink RX2 38 "WrongWord$Gate" "step" "I", Cond.fieldLink RX2 42 "WrongWord$Gate" "shrove" "I", Cond.methodLink RX2 61 yX2_secretBy, Cond.instanceMethod yX2_secretBy, Cond.selects RX2 yX2_secretBy yX2_secretBy, Cond.code yX2_secretBy cX2_secretBy 5 (some .int), Cond.fieldLink RX2 45 "WrongWord$Gate" "words" "I", Cond.static yX7_rest, Cond.code yX7_rest cX7_rest 2 (some .int), Cond.methodLink RX2 89 yX2_catchesIf, Cond.instanceMethod yX2_catchesIf, Cond.selects RX2 yX2_catchesIf yX2_catchesIf, Cond.code yX2_catchesIf cX2_catchesIf 6 (some .boolean), Cond.fieldLink RX2 15 "WrongWord$Gate" "kinds" "[I", Cond.methodLink RX2 74 yX2_guardOn, Cond.instanceMethod yX2_guardOn, Cond.selects RX2 yX2_guardOn yX2_guardOn, Cond.code yX2_guardOn cX2_guardOn 3 (some .int), Cond.fieldLink RX2 48 "WrongWord$Gate" "guards" "I", Cond.methodLink RX2 77 yX2_isThere, Cond.instanceMethod yX2_isThere, Cond.selects RX2 yX2_isThere yX2_isThere]
def wsX7_hourOfLast_r3 : List Cond := [Cond.code yX2_isThere cX2_isThere 2 (some .boolean), Cond.fieldLink RX2 65 "WrongWord$Moment" "there" "I", Cond.methodLink RX2 81 yX2_wouldTake, Cond.instanceMethod yX2_wouldTake, Cond.selects RX2 yX2_wouldTake yX2_wouldTake, Cond.code yX2_wouldTake cX2_wouldTake 5 (some .boolean), Cond.methodLink RX2 68 yX2_distance, Cond.instanceMethod yX2_distance, Cond.selects RX2 yX2_distance yX2_distance, Cond.code yX2_distance cX2_distance 5 (some .int), Cond.fieldLink RX2 9 "WrongWord$Gate" "letters" "[I", Cond.methodLink RX2 71 yX2_lips, Cond.instanceMethod yX2_lips, Cond.selects RX2 yX2_lips yX2_lips, Cond.code yX2_lips cX2_lips 5 (some .int)]
def wsX7_hourOfLast : List Cond := .code yX7_hourOfLast cX7_hourOfLast 7 (some .int) :: ((wsX7_hourOfLast_r1 ++ (wsX7_hourOfLast_r2 ++ wsX7_hourOfLast_r3)) ++ wsX50 ++ wsX70 ++ wsX20 ++ wsX40)
def wsX7_march_r1 : List Cond := [Cond.constant RX7 136 (-1000002), Cond.constant RX7 59 (-1000001), Cond.fieldLink RX7 11 "WrongWord" "rows" "[LWrongWord$Row;", Cond.methodLink RX7 133 yX7_noGate, Cond.instanceMethod yX7_noGate, Cond.selects RX7 yX7_noGate yX7_noGate, Cond.initialized RX7, Cond.code yX7_noGate cX7_noGate 1 (some .boolean), Cond.fieldLink RX7 25 "WrongWord" "gate" "LWrongWord$Gate;", Cond.fieldLink RX7 130 "WrongWord$Gate" "words" "I", Cond.methodLink RX7 55 yX7_isRow, Cond.instanceMethod yX7_isRow, Cond.selects RX7 yX7_isRow yX7_isRow, Cond.code yX7_isRow cX7_isRow 2 (some .boolean), Cond.methodLink RX7 71 yX5_findingOf, Cond.instanceMethod yX5_findingOf, Cond.selects RX5 yX5_findingOf yX5_findingOf, Cond.initialized RX5, Cond.code yX5_findingOf cX5_findingOf 3 (some .int), Cond.fieldLink RX5 15 "WrongWord$Row" "lane" "I", Cond.methodLink RX5 22 yX5_reaches, Cond.instanceMethod yX5_reaches, Cond.selects RX5 yX5_reaches yX5_reaches, Cond.code yX5_reaches cX5_reaches 3 (some .boolean)]
def wsX7_march_r2 : List Cond := [Cond.fieldLink RX5 19 "WrongWord$Row" "size" "I", Cond.methodLink RX7 60 yX7_found, Cond.instanceMethod yX7_found, Cond.selects RX7 yX7_found yX7_found, Cond.code yX7_found cX7_found 2 (some .int), Cond.fieldLink RX7 333 "WrongWord" "latestFinding" "I", Cond.constant RX7 336 (-1000010), Cond.methodLink RX7 257 yX7_hourOfLast, Cond.instanceMethod yX7_hourOfLast, Cond.selects RX7 yX7_hourOfLast yX7_hourOfLast, Cond.code yX7_hourOfLast cX7_hourOfLast 7 (some .int), Cond.fieldLink RX7 86 "WrongWord$Row" "items" "[I", Cond.constant RX7 175 (-1000000), Cond.methodLink RX7 156 yX7_isWord, Cond.instanceMethod yX7_isWord, Cond.selects RX7 yX7_isWord yX7_isWord, Cond.code yX7_isWord cX7_isWord 2 (some .boolean), Cond.methodLink RX7 337 yX2_hourIn, Cond.instanceMethod yX2_hourIn, Cond.selects RX2 yX2_hourIn yX2_hourIn, Cond.initialized RX2, Cond.code yX2_hourIn cX2_hourIn 4 (some .int), Cond.constant RX2 103 (-1000000), Cond.methodLink RX2 96 yX2_catches]
def wsX7_march_r3 : List Cond := [Cond.instanceMethod yX2_catches, Cond.selects RX2 yX2_catches yX2_catches, Cond.code yX2_catches cX2_catches 4 (some .boolean), Cond.fieldLink RX2 24 "WrongWord$Gate" "now" "LWrongWord$Moment;", Cond.fieldLink RX2 58 "WrongWord$Moment" "night" "I", Cond.methodLink RX2 85 yX2_secretIn, Cond.instanceMethod yX2_secretIn, Cond.selects RX2 yX2_secretIn yX2_secretIn, Cond.code yX2_secretIn cX2_secretIn 2 (some .int), Cond.fieldLink RX2 55 "WrongWord$Moment" "start" "I", Cond.fieldLink RX2 38 "WrongWord$Gate" "step" "I", Cond.fieldLink RX2 42 "WrongWord$Gate" "shrove" "I", Cond.methodLink RX2 61 yX2_secretBy, Cond.instanceMethod yX2_secretBy, Cond.selects RX2 yX2_secretBy yX2_secretBy, Cond.code yX2_secretBy cX2_secretBy 5 (some .int), Cond.fieldLink RX2 45 "WrongWord$Gate" "words" "I", Cond.static yX7_rest, Cond.code yX7_rest cX7_rest 2 (some .int), Cond.methodLink RX2 89 yX2_catchesIf, Cond.instanceMethod yX2_catchesIf, Cond.selects RX2 yX2_catchesIf yX2_catchesIf, Cond.code yX2_catchesIf cX2_catchesIf 6 (some .boolean), Cond.fieldLink RX2 15 "WrongWord$Gate" "kinds" "[I"]
def wsX7_march_r4 : List Cond := [Cond.methodLink RX2 74 yX2_guardOn, Cond.instanceMethod yX2_guardOn, Cond.selects RX2 yX2_guardOn yX2_guardOn, Cond.code yX2_guardOn cX2_guardOn 3 (some .int), Cond.fieldLink RX2 48 "WrongWord$Gate" "guards" "I", Cond.methodLink RX2 77 yX2_isThere, Cond.instanceMethod yX2_isThere, Cond.selects RX2 yX2_isThere yX2_isThere, Cond.code yX2_isThere cX2_isThere 2 (some .boolean), Cond.fieldLink RX2 65 "WrongWord$Moment" "there" "I", Cond.methodLink RX2 81 yX2_wouldTake, Cond.instanceMethod yX2_wouldTake, Cond.selects RX2 yX2_wouldTake yX2_wouldTake, Cond.code yX2_wouldTake cX2_wouldTake 5 (some .boolean), Cond.methodLink RX2 68 yX2_distance, Cond.instanceMethod yX2_distance, Cond.selects RX2 yX2_distance yX2_distance, Cond.code yX2_distance cX2_distance 5 (some .int), Cond.fieldLink RX2 9 "WrongWord$Gate" "letters" "[I", Cond.methodLink RX2 71 yX2_lips, Cond.instanceMethod yX2_lips, Cond.selects RX2 yX2_lips yX2_lips, Cond.code yX2_lips cX2_lips 5 (some .int), Cond.methodLink RX7 68 yX7_unfound]
def wsX7_march_r5 : List Cond := [Cond.instanceMethod yX7_unfound, Cond.selects RX7 yX7_unfound yX7_unfound, Cond.code yX7_unfound cX7_unfound 2 (some .int)]
def wsX7_march : List Cond := .code yX7_march cX7_march 6 (some .int) :: ((wsX7_march_r1 ++ (wsX7_march_r2 ++ (wsX7_march_r3 ++ (wsX7_march_r4 ++ wsX7_march_r5)))) ++ wsX70 ++ wsX20 ++ wsX50 ++ wsX40)
def wsX7_cheap_r1 : List Cond := [Cond.constant RX7 136 (-1000002), Cond.constant RX7 59 (-1000001), Cond.fieldLink RX7 25 "WrongWord" "gate" "LWrongWord$Gate;", Cond.methodLink RX7 133 yX7_noGate, Cond.instanceMethod yX7_noGate, Cond.selects RX7 yX7_noGate yX7_noGate, Cond.initialized RX7, Cond.code yX7_noGate cX7_noGate 1 (some .boolean), Cond.fieldLink RX7 130 "WrongWord$Gate" "words" "I", Cond.methodLink RX7 233 yX7_areWords, Cond.instanceMethod yX7_areWords, Cond.selects RX7 yX7_areWords yX7_areWords, Cond.code yX7_areWords cX7_areWords 2 (some .boolean), Cond.methodLink RX7 227 yX7_isAhead, Cond.instanceMethod yX7_isAhead, Cond.selects RX7 yX7_isAhead yX7_isAhead, Cond.code yX7_isAhead cX7_isAhead 2 (some .boolean), Cond.methodLink RX7 261 yX2_guardsAgainst, Cond.instanceMethod yX2_guardsAgainst, Cond.selects RX2 yX2_guardsAgainst yX2_guardsAgainst, Cond.initialized RX2, Cond.code yX2_guardsAgainst cX2_guardsAgainst 5 (some .int), Cond.fieldLink RX2 24 "WrongWord$Gate" "now" "LWrongWord$Moment;", Cond.fieldLink RX2 58 "WrongWord$Moment" "night" "I"]
def wsX7_cheap_r2 : List Cond := [Cond.methodLink RX2 100 yX2_wordsIn, Cond.instanceMethod yX2_wordsIn, Cond.selects RX2 yX2_wordsIn yX2_wordsIn, Cond.code yX2_wordsIn cX2_wordsIn 5 (some .int), Cond.fieldLink RX2 45 "WrongWord$Gate" "words" "I", Cond.methodLink RX2 96 yX2_catches, Cond.instanceMethod yX2_catches, Cond.selects RX2 yX2_catches yX2_catches, Cond.code yX2_catches cX2_catches 4 (some .boolean), Cond.methodLink RX2 85 yX2_secretIn, Cond.instanceMethod yX2_secretIn, Cond.selects RX2 yX2_secretIn yX2_secretIn, Cond.code yX2_secretIn cX2_secretIn 2 (some .int), Cond.fieldLink RX2 55 "WrongWord$Moment" "start" "I", Cond.fieldLink RX2 38 "WrongWord$Gate" "step" "I", Cond.fieldLink RX2 42 "WrongWord$Gate" "shrove" "I", Cond.methodLink RX2 61 yX2_secretBy, Cond.instanceMethod yX2_secretBy, Cond.selects RX2 yX2_secretBy yX2_secretBy, Cond.code yX2_secretBy cX2_secretBy 5 (some .int), Cond.static yX7_rest, Cond.code yX7_rest cX7_rest 2 (some .int), Cond.methodLink RX2 89 yX2_catchesIf, Cond.instanceMethod yX2_catchesIf]
def wsX7_cheap_r3 : List Cond := [Cond.selects RX2 yX2_catchesIf yX2_catchesIf, Cond.code yX2_catchesIf cX2_catchesIf 6 (some .boolean), Cond.fieldLink RX2 15 "WrongWord$Gate" "kinds" "[I", Cond.methodLink RX2 74 yX2_guardOn, Cond.instanceMethod yX2_guardOn, Cond.selects RX2 yX2_guardOn yX2_guardOn, Cond.code yX2_guardOn cX2_guardOn 3 (some .int), Cond.fieldLink RX2 48 "WrongWord$Gate" "guards" "I", Cond.methodLink RX2 77 yX2_isThere, Cond.instanceMethod yX2_isThere, Cond.selects RX2 yX2_isThere yX2_isThere, Cond.code yX2_isThere cX2_isThere 2 (some .boolean), Cond.fieldLink RX2 65 "WrongWord$Moment" "there" "I", Cond.methodLink RX2 81 yX2_wouldTake, Cond.instanceMethod yX2_wouldTake, Cond.selects RX2 yX2_wouldTake yX2_wouldTake, Cond.code yX2_wouldTake cX2_wouldTake 5 (some .boolean), Cond.methodLink RX2 68 yX2_distance, Cond.instanceMethod yX2_distance, Cond.selects RX2 yX2_distance yX2_distance, Cond.code yX2_distance cX2_distance 5 (some .int), Cond.fieldLink RX2 9 "WrongWord$Gate" "letters" "[I", Cond.methodLink RX2 71 yX2_lips, Cond.instanceMethod yX2_lips]
def wsX7_cheap_r4 : List Cond := [Cond.selects RX2 yX2_lips yX2_lips, Cond.code yX2_lips cX2_lips 5 (some .int), Cond.static yX7_bit, Cond.code yX7_bit cX7_bit 1 (some .int), Cond.methodLink RX7 264 yX2_feeOf, Cond.instanceMethod yX2_feeOf, Cond.selects RX2 yX2_feeOf yX2_feeOf, Cond.code yX2_feeOf cX2_feeOf 4 (some .int), Cond.fieldLink RX2 18 "WrongWord$Gate" "fees" "[I"]
def wsX7_cheap : List Cond := .code yX7_cheap cX7_cheap 5 (some .int) :: ((wsX7_cheap_r1 ++ (wsX7_cheap_r2 ++ (wsX7_cheap_r3 ++ wsX7_cheap_r4))) ++ wsX70 ++ wsX20 ++ wsX40)
def wsX7_near : List Cond := .code yX7_near cX7_near 4 (some .int) :: ([.constant RX7 59 (-1000001), .fieldLink RX7 25 "WrongWord" "gate" "LWrongWord$Gate;", .constant RX7 175 (-1000000), .methodLink RX7 156 yX7_isWord, .instanceMethod yX7_isWord, .selects RX7 yX7_isWord yX7_isWord, .initialized RX7, .code yX7_isWord cX7_isWord 2 (some .boolean), .fieldLink RX7 130 "WrongWord$Gate" "words" "I", .methodLink RX7 267 yX2_nearestTo, .instanceMethod yX2_nearestTo, .selects RX2 yX2_nearestTo yX2_nearestTo, .initialized RX2, .code yX2_nearestTo cX2_nearestTo 5 (some .int), .constant RX2 103 (-1000000), .fieldLink RX2 45 "WrongWord$Gate" "words" "I", .methodLink RX2 68 yX2_distance, .instanceMethod yX2_distance, .selects RX2 yX2_distance yX2_distance, .code yX2_distance cX2_distance 5 (some .int), .fieldLink RX2 9 "WrongWord$Gate" "letters" "[I", .methodLink RX7 203 yX2_distance] ++ wsX70 ++ wsX20)
def wsX7_rulesThatTell : List Cond := .code yX7_rulesThatTell cX7_rulesThatTell 13 (some .int) :: ([.fieldLink RX7 25 "WrongWord" "gate" "LWrongWord$Gate;", .fieldLink RX7 137 "WrongWord$Gate" "now" "LWrongWord$Moment;", .fieldLink RX7 184 "WrongWord$Moment" "start" "I", .fieldLink RX7 340 "WrongWord$Gate" "step" "I", .fieldLink RX7 343 "WrongWord$Gate" "shrove" "I", .fieldLink RX7 141 "WrongWord$Moment" "night" "I", .fieldLink RX7 86 "WrongWord$Row" "items" "[I", .methodLink RX7 346 yX2_secretBy, .instanceMethod yX2_secretBy, .selects RX2 yX2_secretBy yX2_secretBy, .initialized RX2, .code yX2_secretBy cX2_secretBy 5 (some .int), .fieldLink RX2 45 "WrongWord$Gate" "words" "I", .static yX7_rest, .initialized RX7, .code yX7_rest cX7_rest 2 (some .int), .methodLink RX7 180 yX7_bit, .static yX7_bit, .code yX7_bit cX7_bit 1 (some .int)] ++ wsX70 ++ wsX20 ++ wsX40 ++ wsX50)
def wsX7_rules_r1 : List Cond := [Cond.constant RX7 136 (-1000002), Cond.constant RX7 59 (-1000001), Cond.fieldLink RX7 11 "WrongWord" "rows" "[LWrongWord$Row;", Cond.methodLink RX7 133 yX7_noGate, Cond.instanceMethod yX7_noGate, Cond.selects RX7 yX7_noGate yX7_noGate, Cond.initialized RX7, Cond.code yX7_noGate cX7_noGate 1 (some .boolean), Cond.fieldLink RX7 25 "WrongWord" "gate" "LWrongWord$Gate;", Cond.fieldLink RX7 130 "WrongWord$Gate" "words" "I", Cond.methodLink RX7 55 yX7_isRow, Cond.instanceMethod yX7_isRow, Cond.selects RX7 yX7_isRow yX7_isRow, Cond.code yX7_isRow cX7_isRow 2 (some .boolean), Cond.methodLink RX7 71 yX5_findingOf, Cond.instanceMethod yX5_findingOf, Cond.selects RX5 yX5_findingOf yX5_findingOf, Cond.initialized RX5, Cond.code yX5_findingOf cX5_findingOf 3 (some .int), Cond.fieldLink RX5 15 "WrongWord$Row" "lane" "I", Cond.methodLink RX5 22 yX5_reaches, Cond.instanceMethod yX5_reaches, Cond.selects RX5 yX5_reaches yX5_reaches, Cond.code yX5_reaches cX5_reaches 3 (some .boolean)]
def wsX7_rules_r2 : List Cond := [Cond.fieldLink RX5 19 "WrongWord$Row" "size" "I", Cond.methodLink RX7 60 yX7_found, Cond.instanceMethod yX7_found, Cond.selects RX7 yX7_found yX7_found, Cond.code yX7_found cX7_found 2 (some .int), Cond.fieldLink RX7 333 "WrongWord" "latestFinding" "I", Cond.constant RX7 336 (-1000010), Cond.methodLink RX7 270 yX7_rulesThatTell, Cond.instanceMethod yX7_rulesThatTell, Cond.selects RX7 yX7_rulesThatTell yX7_rulesThatTell, Cond.code yX7_rulesThatTell cX7_rulesThatTell 13 (some .int), Cond.fieldLink RX7 137 "WrongWord$Gate" "now" "LWrongWord$Moment;", Cond.fieldLink RX7 184 "WrongWord$Moment" "start" "I", Cond.fieldLink RX7 340 "WrongWord$Gate" "step" "I", Cond.fieldLink RX7 343 "WrongWord$Gate" "shrove" "I", Cond.fieldLink RX7 141 "WrongWord$Moment" "night" "I", Cond.fieldLink RX7 86 "WrongWord$Row" "items" "[I", Cond.methodLink RX7 346 yX2_secretBy, Cond.instanceMethod yX2_secretBy, Cond.selects RX2 yX2_secretBy yX2_secretBy, Cond.initialized RX2, Cond.code yX2_secretBy cX2_secretBy 5 (some .int), Cond.fieldLink RX2 45 "WrongWord$Gate" "words" "I", Cond.static yX7_rest]
def wsX7_rules_r3 : List Cond := [Cond.code yX7_rest cX7_rest 2 (some .int), Cond.methodLink RX7 180 yX7_bit, Cond.static yX7_bit, Cond.code yX7_bit cX7_bit 1 (some .int), Cond.methodLink RX7 68 yX7_unfound, Cond.instanceMethod yX7_unfound, Cond.selects RX7 yX7_unfound yX7_unfound, Cond.code yX7_unfound cX7_unfound 2 (some .int)]
def wsX7_rules : List Cond := .code yX7_rules cX7_rules 6 (some .int) :: ((wsX7_rules_r1 ++ (wsX7_rules_r2 ++ wsX7_rules_r3)) ++ wsX70 ++ wsX20 ++ wsX50 ++ wsX40)
def wsX7_fitsTold : List Cond := .code yX7_fitsTold cX7_fitsTold 6 (some .boolean) :: ([.fieldLink RX7 25 "WrongWord" "gate" "LWrongWord$Gate;", .fieldLink RX7 130 "WrongWord$Gate" "words" "I", .fieldLink RX7 137 "WrongWord$Gate" "now" "LWrongWord$Moment;", .fieldLink RX7 141 "WrongWord$Moment" "night" "I", .fieldLink RX7 86 "WrongWord$Row" "items" "[I", .methodLink RX7 354 yX2_wouldTake, .instanceMethod yX2_wouldTake, .selects RX2 yX2_wouldTake yX2_wouldTake, .initialized RX2, .code yX2_wouldTake cX2_wouldTake 5 (some .boolean), .methodLink RX2 68 yX2_distance, .instanceMethod yX2_distance, .selects RX2 yX2_distance yX2_distance, .code yX2_distance cX2_distance 5 (some .int), .fieldLink RX2 9 "WrongWord$Gate" "letters" "[I", .methodLink RX2 71 yX2_lips, .instanceMethod yX2_lips, .selects RX2 yX2_lips yX2_lips, .code yX2_lips cX2_lips 5 (some .int), .methodLink RX7 180 yX7_bit, .static yX7_bit, .initialized RX7, .code yX7_bit cX7_bit 1 (some .int)] ++ wsX70 ++ wsX20 ++ wsX40 ++ wsX50)
def wsX7_kindsThatFit_r1 : List Cond := [Cond.fieldLink RX7 25 "WrongWord" "gate" "LWrongWord$Gate;", Cond.methodLink RX7 153 yX2_secretIn, Cond.instanceMethod yX2_secretIn, Cond.selects RX2 yX2_secretIn yX2_secretIn, Cond.initialized RX2, Cond.code yX2_secretIn cX2_secretIn 2 (some .int), Cond.fieldLink RX2 24 "WrongWord$Gate" "now" "LWrongWord$Moment;", Cond.fieldLink RX2 55 "WrongWord$Moment" "start" "I", Cond.fieldLink RX2 38 "WrongWord$Gate" "step" "I", Cond.fieldLink RX2 42 "WrongWord$Gate" "shrove" "I", Cond.fieldLink RX2 58 "WrongWord$Moment" "night" "I", Cond.methodLink RX2 61 yX2_secretBy, Cond.instanceMethod yX2_secretBy, Cond.selects RX2 yX2_secretBy yX2_secretBy, Cond.code yX2_secretBy cX2_secretBy 5 (some .int), Cond.fieldLink RX2 45 "WrongWord$Gate" "words" "I", Cond.static yX7_rest, Cond.initialized RX7, Cond.code yX7_rest cX7_rest 2 (some .int), Cond.methodLink RX7 350 yX7_fitsTold, Cond.instanceMethod yX7_fitsTold, Cond.selects RX7 yX7_fitsTold yX7_fitsTold, Cond.code yX7_fitsTold cX7_fitsTold 6 (some .boolean), Cond.fieldLink RX7 130 "WrongWord$Gate" "words" "I"]
def wsX7_kindsThatFit_r2 : List Cond := [Cond.fieldLink RX7 137 "WrongWord$Gate" "now" "LWrongWord$Moment;", Cond.fieldLink RX7 141 "WrongWord$Moment" "night" "I", Cond.fieldLink RX7 86 "WrongWord$Row" "items" "[I", Cond.methodLink RX7 354 yX2_wouldTake, Cond.instanceMethod yX2_wouldTake, Cond.selects RX2 yX2_wouldTake yX2_wouldTake, Cond.code yX2_wouldTake cX2_wouldTake 5 (some .boolean), Cond.methodLink RX2 68 yX2_distance, Cond.instanceMethod yX2_distance, Cond.selects RX2 yX2_distance yX2_distance, Cond.code yX2_distance cX2_distance 5 (some .int), Cond.fieldLink RX2 9 "WrongWord$Gate" "letters" "[I", Cond.methodLink RX2 71 yX2_lips, Cond.instanceMethod yX2_lips, Cond.selects RX2 yX2_lips yX2_lips, Cond.code yX2_lips cX2_lips 5 (some .int), Cond.methodLink RX7 180 yX7_bit, Cond.static yX7_bit, Cond.code yX7_bit cX7_bit 1 (some .int)]
def wsX7_kindsThatFit : List Cond := .code yX7_kindsThatFit cX7_kindsThatFit 6 (some .int) :: ((wsX7_kindsThatFit_r1 ++ wsX7_kindsThatFit_r2) ++ wsX70 ++ wsX20 ++ wsX40 ++ wsX50)
def wsX7_secretsThatFit_r1 : List Cond := [Cond.fieldLink RX7 25 "WrongWord" "gate" "LWrongWord$Gate;", Cond.fieldLink RX7 130 "WrongWord$Gate" "words" "I", Cond.methodLink RX7 350 yX7_fitsTold, Cond.instanceMethod yX7_fitsTold, Cond.selects RX7 yX7_fitsTold yX7_fitsTold, Cond.initialized RX7, Cond.code yX7_fitsTold cX7_fitsTold 6 (some .boolean), Cond.fieldLink RX7 137 "WrongWord$Gate" "now" "LWrongWord$Moment;", Cond.fieldLink RX7 141 "WrongWord$Moment" "night" "I", Cond.fieldLink RX7 86 "WrongWord$Row" "items" "[I", Cond.methodLink RX7 354 yX2_wouldTake, Cond.instanceMethod yX2_wouldTake, Cond.selects RX2 yX2_wouldTake yX2_wouldTake, Cond.initialized RX2, Cond.code yX2_wouldTake cX2_wouldTake 5 (some .boolean), Cond.methodLink RX2 68 yX2_distance, Cond.instanceMethod yX2_distance, Cond.selects RX2 yX2_distance yX2_distance, Cond.code yX2_distance cX2_distance 5 (some .int), Cond.fieldLink RX2 9 "WrongWord$Gate" "letters" "[I", Cond.methodLink RX2 71 yX2_lips, Cond.instanceMethod yX2_lips, Cond.selects RX2 yX2_lips yX2_lips, Cond.code yX2_lips cX2_lips 5 (some .int)]
def wsX7_secretsThatFit_r2 : List Cond := [Cond.methodLink RX7 180 yX7_bit, Cond.static yX7_bit, Cond.code yX7_bit cX7_bit 1 (some .int)]
def wsX7_secretsThatFit : List Cond := .code yX7_secretsThatFit cX7_secretsThatFit 6 (some .int) :: ((wsX7_secretsThatFit_r1 ++ wsX7_secretsThatFit_r2) ++ wsX70 ++ wsX20 ++ wsX40 ++ wsX50)
def wsX7_fits_r1 : List Cond := [Cond.constant RX7 59 (-1000001), Cond.fieldLink RX7 11 "WrongWord" "rows" "[LWrongWord$Row;", Cond.fieldLink RX7 25 "WrongWord" "gate" "LWrongWord$Gate;", Cond.fieldLink RX7 130 "WrongWord$Gate" "words" "I", Cond.fieldLink RX7 278 "WrongWord$Gate" "kinds" "[I", Cond.methodLink RX7 187 yX7_isGuard, Cond.instanceMethod yX7_isGuard, Cond.selects RX7 yX7_isGuard yX7_isGuard, Cond.initialized RX7, Cond.code yX7_isGuard cX7_isGuard 2 (some .boolean), Cond.fieldLink RX7 327 "WrongWord$Gate" "guards" "I", Cond.methodLink RX7 55 yX7_isRow, Cond.instanceMethod yX7_isRow, Cond.selects RX7 yX7_isRow yX7_isRow, Cond.code yX7_isRow cX7_isRow 2 (some .boolean), Cond.methodLink RX7 71 yX5_findingOf, Cond.instanceMethod yX5_findingOf, Cond.selects RX5 yX5_findingOf yX5_findingOf, Cond.initialized RX5, Cond.code yX5_findingOf cX5_findingOf 3 (some .int), Cond.fieldLink RX5 15 "WrongWord$Row" "lane" "I", Cond.methodLink RX5 22 yX5_reaches, Cond.instanceMethod yX5_reaches, Cond.selects RX5 yX5_reaches yX5_reaches]
def wsX7_fits_r2 : List Cond := [Cond.code yX5_reaches cX5_reaches 3 (some .boolean), Cond.fieldLink RX5 19 "WrongWord$Row" "size" "I", Cond.methodLink RX7 60 yX7_found, Cond.instanceMethod yX7_found, Cond.selects RX7 yX7_found yX7_found, Cond.code yX7_found cX7_found 2 (some .int), Cond.fieldLink RX7 333 "WrongWord" "latestFinding" "I", Cond.constant RX7 336 (-1000010), Cond.methodLink RX7 274 yX7_kindsThatFit, Cond.instanceMethod yX7_kindsThatFit, Cond.selects RX7 yX7_kindsThatFit yX7_kindsThatFit, Cond.code yX7_kindsThatFit cX7_kindsThatFit 6 (some .int), Cond.methodLink RX7 153 yX2_secretIn, Cond.instanceMethod yX2_secretIn, Cond.selects RX2 yX2_secretIn yX2_secretIn, Cond.initialized RX2, Cond.code yX2_secretIn cX2_secretIn 2 (some .int), Cond.fieldLink RX2 24 "WrongWord$Gate" "now" "LWrongWord$Moment;", Cond.fieldLink RX2 55 "WrongWord$Moment" "start" "I", Cond.fieldLink RX2 38 "WrongWord$Gate" "step" "I", Cond.fieldLink RX2 42 "WrongWord$Gate" "shrove" "I", Cond.fieldLink RX2 58 "WrongWord$Moment" "night" "I", Cond.methodLink RX2 61 yX2_secretBy, Cond.instanceMethod yX2_secretBy]
def wsX7_fits_r3 : List Cond := [Cond.selects RX2 yX2_secretBy yX2_secretBy, Cond.code yX2_secretBy cX2_secretBy 5 (some .int), Cond.fieldLink RX2 45 "WrongWord$Gate" "words" "I", Cond.static yX7_rest, Cond.code yX7_rest cX7_rest 2 (some .int), Cond.methodLink RX7 350 yX7_fitsTold, Cond.instanceMethod yX7_fitsTold, Cond.selects RX7 yX7_fitsTold yX7_fitsTold, Cond.code yX7_fitsTold cX7_fitsTold 6 (some .boolean), Cond.fieldLink RX7 137 "WrongWord$Gate" "now" "LWrongWord$Moment;", Cond.fieldLink RX7 141 "WrongWord$Moment" "night" "I", Cond.fieldLink RX7 86 "WrongWord$Row" "items" "[I", Cond.methodLink RX7 354 yX2_wouldTake, Cond.instanceMethod yX2_wouldTake, Cond.selects RX2 yX2_wouldTake yX2_wouldTake, Cond.code yX2_wouldTake cX2_wouldTake 5 (some .boolean), Cond.methodLink RX2 68 yX2_distance, Cond.instanceMethod yX2_distance, Cond.selects RX2 yX2_distance yX2_distance, Cond.code yX2_distance cX2_distance 5 (some .int), Cond.fieldLink RX2 9 "WrongWord$Gate" "letters" "[I", Cond.methodLink RX2 71 yX2_lips, Cond.instanceMethod yX2_lips, Cond.selects RX2 yX2_lips yX2_lips]
def wsX7_fits_r4 : List Cond := [Cond.code yX2_lips cX2_lips 5 (some .int), Cond.methodLink RX7 180 yX7_bit, Cond.static yX7_bit, Cond.code yX7_bit cX7_bit 1 (some .int), Cond.methodLink RX7 281 yX7_secretsThatFit, Cond.instanceMethod yX7_secretsThatFit, Cond.selects RX7 yX7_secretsThatFit yX7_secretsThatFit, Cond.code yX7_secretsThatFit cX7_secretsThatFit 6 (some .int), Cond.methodLink RX7 68 yX7_unfound, Cond.instanceMethod yX7_unfound, Cond.selects RX7 yX7_unfound yX7_unfound, Cond.code yX7_unfound cX7_unfound 2 (some .int)]
def wsX7_fits : List Cond := .code yX7_fits cX7_fits 6 (some .int) :: ((wsX7_fits_r1 ++ (wsX7_fits_r2 ++ (wsX7_fits_r3 ++ wsX7_fits_r4))) ++ wsX70 ++ wsX20 ++ wsX50 ++ wsX40)
def wsX7_commonDivisor : List Cond := .code yX7_commonDivisor cX7_commonDivisor 3 (some .int) :: ([])
def wsX7_lowest : List Cond := .code yX7_lowest cX7_lowest 2 (some .int) :: ([])
def wsX7_sure_r1 : List Cond := [Cond.constant RX7 59 (-1000001), Cond.fieldLink RX7 25 "WrongWord" "gate" "LWrongWord$Gate;", Cond.methodLink RX7 156 yX7_isWord, Cond.instanceMethod yX7_isWord, Cond.selects RX7 yX7_isWord yX7_isWord, Cond.initialized RX7, Cond.code yX7_isWord cX7_isWord 2 (some .boolean), Cond.fieldLink RX7 130 "WrongWord$Gate" "words" "I", Cond.methodLink RX7 159 yX7_isHour, Cond.instanceMethod yX7_isHour, Cond.selects RX7 yX7_isHour yX7_isHour, Cond.code yX7_isHour cX7_isHour 2 (some .boolean), Cond.methodLink RX7 242 yX3_agreeing, Cond.static yX3_agreeing, Cond.initialized RX3, Cond.code yX3_agreeing cX3_agreeing 3 (some .int), Cond.fieldLink RX3 18 "WrongWord$Gate" "words" "I", Cond.methodLink RX3 24 yX3_agreesWithTries, Cond.static yX3_agreesWithTries, Cond.code yX3_agreesWithTries cX3_agreesWithTries 6 (some .boolean), Cond.fieldLink RX3 32 "WrongWord$Gate" "now" "LWrongWord$Moment;", Cond.fieldLink RX3 36 "WrongWord$Moment" "tries" "I", Cond.fieldLink RX3 41 "WrongWord$Moment" "triedGuard" "[I", Cond.fieldLink RX3 44 "WrongWord$Gate" "guards" "I"]
def wsX7_sure_r2 : List Cond := [Cond.fieldLink RX3 47 "WrongWord$Gate" "kinds" "[I", Cond.fieldLink RX3 50 "WrongWord$Moment" "triedWord" "[I", Cond.fieldLink RX3 53 "WrongWord$Moment" "night" "I", Cond.fieldLink RX3 60 "WrongWord$Moment" "triedTaken" "[I", Cond.methodLink RX3 56 yX2_wouldTake, Cond.instanceMethod yX2_wouldTake, Cond.selects RX2 yX2_wouldTake yX2_wouldTake, Cond.initialized RX2, Cond.code yX2_wouldTake cX2_wouldTake 5 (some .boolean), Cond.methodLink RX2 68 yX2_distance, Cond.instanceMethod yX2_distance, Cond.selects RX2 yX2_distance yX2_distance, Cond.code yX2_distance cX2_distance 5 (some .int), Cond.fieldLink RX2 9 "WrongWord$Gate" "letters" "[I", Cond.methodLink RX2 71 yX2_lips, Cond.instanceMethod yX2_lips, Cond.selects RX2 yX2_lips yX2_lips, Cond.code yX2_lips cX2_lips 5 (some .int), Cond.static yX7_bit, Cond.code yX7_bit cX7_bit 1 (some .int), Cond.methodLink RX7 285 yJ6_bitCount_0f7a4, Cond.static yJ6_bitCount_0f7a4, Cond.initialized RJ6, Cond.code yJ6_bitCount_0f7a4 cJ6_bitCount_0f7a4 1 (some .int)]
def wsX7_sure_r3 : List Cond := [Cond.constant RJ6 265 (1431655765), Cond.constant RJ6 266 (858993459), Cond.constant RJ6 267 (252645135), Cond.methodLink RX7 290 yX3_secretsCatching, Cond.static yX3_secretsCatching, Cond.code yX3_secretsCatching cX3_secretsCatching 5 (some .int), Cond.methodLink RX3 63 yX2_catchesIf, Cond.instanceMethod yX2_catchesIf, Cond.selects RX2 yX2_catchesIf yX2_catchesIf, Cond.code yX2_catchesIf cX2_catchesIf 6 (some .boolean), Cond.fieldLink RX2 15 "WrongWord$Gate" "kinds" "[I", Cond.methodLink RX2 74 yX2_guardOn, Cond.instanceMethod yX2_guardOn, Cond.selects RX2 yX2_guardOn yX2_guardOn, Cond.code yX2_guardOn cX2_guardOn 3 (some .int), Cond.fieldLink RX2 48 "WrongWord$Gate" "guards" "I", Cond.static yX7_rest, Cond.code yX7_rest cX7_rest 2 (some .int), Cond.methodLink RX2 77 yX2_isThere, Cond.instanceMethod yX2_isThere, Cond.selects RX2 yX2_isThere yX2_isThere, Cond.code yX2_isThere cX2_isThere 2 (some .boolean), Cond.fieldLink RX2 24 "WrongWord$Gate" "now" "LWrongWord$Moment;", Cond.fieldLink RX2 65 "WrongWord$Moment" "there" "I"]
def wsX7_sure_r4 : List Cond := [Cond.methodLink RX2 81 yX2_wouldTake, Cond.methodLink RX7 293 yX7_commonDivisor, Cond.static yX7_commonDivisor, Cond.code yX7_commonDivisor cX7_commonDivisor 3 (some .int), Cond.methodLink RX7 296 yX7_lowest, Cond.static yX7_lowest, Cond.code yX7_lowest cX7_lowest 2 (some .int)]
def wsX7_sure : List Cond := .code yX7_sure cX7_sure 10 (some .int) :: ((wsX7_sure_r1 ++ (wsX7_sure_r2 ++ (wsX7_sure_r3 ++ wsX7_sure_r4))) ++ wsX70 ++ wsX20 ++ wsX40)
def wsX7_drawn_r1 : List Cond := [Cond.constant RX7 136 (-1000002), Cond.constant RX7 299 (999999), Cond.constant RX7 59 (-1000001), Cond.constantLong RX7 300 (16807), Cond.constantLong RX7 302 (2147483647), Cond.fieldLink RX7 25 "WrongWord" "gate" "LWrongWord$Gate;", Cond.fieldLink RX7 130 "WrongWord$Gate" "words" "I", Cond.methodLink RX7 133 yX7_noGate, Cond.instanceMethod yX7_noGate, Cond.selects RX7 yX7_noGate yX7_noGate, Cond.initialized RX7, Cond.code yX7_noGate cX7_noGate 1 (some .boolean), Cond.methodLink RX7 304 yX7_rest, Cond.static yX7_rest, Cond.code yX7_rest cX7_rest 2 (some .int), Cond.methodLink RX7 168 yX2_catches, Cond.instanceMethod yX2_catches, Cond.selects RX2 yX2_catches yX2_catches, Cond.initialized RX2, Cond.code yX2_catches cX2_catches 4 (some .boolean), Cond.fieldLink RX2 24 "WrongWord$Gate" "now" "LWrongWord$Moment;", Cond.fieldLink RX2 58 "WrongWord$Moment" "night" "I", Cond.methodLink RX2 85 yX2_secretIn, Cond.instanceMethod yX2_secretIn]
def wsX7_drawn_r2 : List Cond := [Cond.selects RX2 yX2_secretIn yX2_secretIn, Cond.code yX2_secretIn cX2_secretIn 2 (some .int), Cond.fieldLink RX2 55 "WrongWord$Moment" "start" "I", Cond.fieldLink RX2 38 "WrongWord$Gate" "step" "I", Cond.fieldLink RX2 42 "WrongWord$Gate" "shrove" "I", Cond.methodLink RX2 61 yX2_secretBy, Cond.instanceMethod yX2_secretBy, Cond.selects RX2 yX2_secretBy yX2_secretBy, Cond.code yX2_secretBy cX2_secretBy 5 (some .int), Cond.fieldLink RX2 45 "WrongWord$Gate" "words" "I", Cond.methodLink RX2 89 yX2_catchesIf, Cond.instanceMethod yX2_catchesIf, Cond.selects RX2 yX2_catchesIf yX2_catchesIf, Cond.code yX2_catchesIf cX2_catchesIf 6 (some .boolean), Cond.fieldLink RX2 15 "WrongWord$Gate" "kinds" "[I", Cond.methodLink RX2 74 yX2_guardOn, Cond.instanceMethod yX2_guardOn, Cond.selects RX2 yX2_guardOn yX2_guardOn, Cond.code yX2_guardOn cX2_guardOn 3 (some .int), Cond.fieldLink RX2 48 "WrongWord$Gate" "guards" "I", Cond.methodLink RX2 77 yX2_isThere, Cond.instanceMethod yX2_isThere, Cond.selects RX2 yX2_isThere yX2_isThere, Cond.code yX2_isThere cX2_isThere 2 (some .boolean)]
def wsX7_drawn_r3 : List Cond := [Cond.fieldLink RX2 65 "WrongWord$Moment" "there" "I", Cond.methodLink RX2 81 yX2_wouldTake, Cond.instanceMethod yX2_wouldTake, Cond.selects RX2 yX2_wouldTake yX2_wouldTake, Cond.code yX2_wouldTake cX2_wouldTake 5 (some .boolean), Cond.methodLink RX2 68 yX2_distance, Cond.instanceMethod yX2_distance, Cond.selects RX2 yX2_distance yX2_distance, Cond.code yX2_distance cX2_distance 5 (some .int), Cond.fieldLink RX2 9 "WrongWord$Gate" "letters" "[I", Cond.methodLink RX2 71 yX2_lips, Cond.instanceMethod yX2_lips, Cond.selects RX2 yX2_lips yX2_lips, Cond.code yX2_lips cX2_lips 5 (some .int)]
def wsX7_drawn : List Cond := .code yX7_drawn cX7_drawn 10 (some .int) :: ((wsX7_drawn_r1 ++ (wsX7_drawn_r2 ++ wsX7_drawn_r3)) ++ wsX70 ++ wsX20 ++ wsX40)
def wsX7_image_r1 : List Cond := [Cond.constant RX7 59 (-1000001), Cond.constant RX7 136 (-1000002), Cond.fieldLink RX7 36 "WrongWord" "images" "[LWrongWord$Gate;", Cond.fieldLink RX7 25 "WrongWord" "gate" "LWrongWord$Gate;", Cond.methodLink RX7 133 yX7_noGate, Cond.instanceMethod yX7_noGate, Cond.selects RX7 yX7_noGate yX7_noGate, Cond.initialized RX7, Cond.code yX7_noGate cX7_noGate 1 (some .boolean), Cond.fieldLink RX7 130 "WrongWord$Gate" "words" "I", Cond.methodLink RX7 123 yX2_become, Cond.instanceMethod yX2_become, Cond.selects RX2 yX2_become yX2_become, Cond.initialized RX2, Cond.code yX2_become cX2_become 2 none, Cond.fieldLink RX2 9 "WrongWord$Gate" "letters" "[I", Cond.methodLink RX2 28 arraycopyName, Cond.native arraycopyName, Cond.static arraycopyName, Cond.initialized "java/lang/System", Cond.fieldLink RX2 15 "WrongWord$Gate" "kinds" "[I", Cond.fieldLink RX2 18 "WrongWord$Gate" "fees" "[I", Cond.fieldLink RX2 24 "WrongWord$Gate" "now" "LWrongWord$Moment;", Cond.fieldLink RX2 38 "WrongWord$Gate" "step" "I"]
def wsX7_image_r2 : List Cond := [Cond.fieldLink RX2 42 "WrongWord$Gate" "shrove" "I", Cond.fieldLink RX2 45 "WrongWord$Gate" "words" "I", Cond.fieldLink RX2 48 "WrongWord$Gate" "guards" "I", Cond.methodLink RX2 34 yX4_become, Cond.instanceMethod yX4_become, Cond.selects RX4 yX4_become yX4_become, Cond.initialized RX4, Cond.code yX4_become cX4_become 2 none, Cond.fieldLink RX4 24 "WrongWord$Moment" "night" "I", Cond.fieldLink RX4 34 "WrongWord$Moment" "start" "I", Cond.fieldLink RX4 28 "WrongWord$Moment" "there" "I", Cond.fieldLink RX4 31 "WrongWord$Moment" "tries" "I", Cond.fieldLink RX4 9 "WrongWord$Moment" "took" "[I", Cond.methodLink RX4 37 arraycopyName, Cond.fieldLink RX4 15 "WrongWord$Moment" "triedWord" "[I", Cond.fieldLink RX4 18 "WrongWord$Moment" "triedGuard" "[I", Cond.fieldLink RX4 21 "WrongWord$Moment" "triedTaken" "[I"]
def wsX7_image : List Cond := .code yX7_image cX7_image 2 (some .int) :: ((wsX7_image_r1 ++ wsX7_image_r2) ++ wsX70 ++ wsX20 ++ wsX40)
def wsX7_restore_r1 : List Cond := [Cond.constant RX7 59 (-1000001), Cond.fieldLink RX7 36 "WrongWord" "images" "[LWrongWord$Gate;", Cond.fieldLink RX7 130 "WrongWord$Gate" "words" "I", Cond.constant RX7 136 (-1000002), Cond.fieldLink RX7 25 "WrongWord" "gate" "LWrongWord$Gate;", Cond.fieldLink RX7 32 "WrongWord" "acts" "LWrongWord$Acts;", Cond.methodLink RX7 123 yX2_become, Cond.instanceMethod yX2_become, Cond.selects RX2 yX2_become yX2_become, Cond.initialized RX2, Cond.code yX2_become cX2_become 2 none, Cond.fieldLink RX2 9 "WrongWord$Gate" "letters" "[I", Cond.methodLink RX2 28 arraycopyName, Cond.native arraycopyName, Cond.static arraycopyName, Cond.initialized "java/lang/System", Cond.fieldLink RX2 15 "WrongWord$Gate" "kinds" "[I", Cond.fieldLink RX2 18 "WrongWord$Gate" "fees" "[I", Cond.fieldLink RX2 24 "WrongWord$Gate" "now" "LWrongWord$Moment;", Cond.fieldLink RX2 38 "WrongWord$Gate" "step" "I", Cond.fieldLink RX2 42 "WrongWord$Gate" "shrove" "I", Cond.fieldLink RX2 45 "WrongWord$Gate" "words" "I", Cond.fieldLink RX2 48 "WrongWord$Gate" "guards" "I", Cond.methodLink RX2 34 yX4_become]
def wsX7_restore_r2 : List Cond := [Cond.instanceMethod yX4_become, Cond.selects RX4 yX4_become yX4_become, Cond.initialized RX4, Cond.code yX4_become cX4_become 2 none, Cond.fieldLink RX4 24 "WrongWord$Moment" "night" "I", Cond.fieldLink RX4 34 "WrongWord$Moment" "start" "I", Cond.fieldLink RX4 28 "WrongWord$Moment" "there" "I", Cond.fieldLink RX4 31 "WrongWord$Moment" "tries" "I", Cond.fieldLink RX4 9 "WrongWord$Moment" "took" "[I", Cond.methodLink RX4 37 arraycopyName, Cond.fieldLink RX4 15 "WrongWord$Moment" "triedWord" "[I", Cond.fieldLink RX4 18 "WrongWord$Moment" "triedGuard" "[I", Cond.fieldLink RX4 21 "WrongWord$Moment" "triedTaken" "[I", Cond.methodLink RX7 127 yX0_forget, Cond.instanceMethod yX0_forget, Cond.selects RX0 yX0_forget yX0_forget, Cond.initialized RX0, Cond.code yX0_forget cX0_forget 1 none, Cond.fieldLink RX0 18 "WrongWord$Acts" "kept" "I"]
def wsX7_restore : List Cond := .code yX7_restore cX7_restore 2 (some .int) :: ((wsX7_restore_r1 ++ wsX7_restore_r2) ++ wsX70 ++ wsX20 ++ wsX40 ++ wsX00)
def wsX7_kind : List Cond := .code yX7_kind cX7_kind 2 (some .int) :: ([.fieldLink RX7 25 "WrongWord" "gate" "LWrongWord$Gate;", .fieldLink RX7 278 "WrongWord$Gate" "kinds" "[I", .constant RX7 59 (-1000001), .methodLink RX7 187 yX7_isGuard, .instanceMethod yX7_isGuard, .selects RX7 yX7_isGuard yX7_isGuard, .initialized RX7, .code yX7_isGuard cX7_isGuard 2 (some .boolean), .fieldLink RX7 327 "WrongWord$Gate" "guards" "I"] ++ wsX70 ++ wsX20)
def wsX7_as : List Cond := .code yX7_as cX7_as 3 (some .int) :: ([.constant RX7 59 (-1000001), .fieldLink RX7 25 "WrongWord" "gate" "LWrongWord$Gate;", .fieldLink RX7 278 "WrongWord$Gate" "kinds" "[I", .methodLink RX7 187 yX7_isGuard, .instanceMethod yX7_isGuard, .selects RX7 yX7_isGuard yX7_isGuard, .initialized RX7, .code yX7_isGuard cX7_isGuard 2 (some .boolean), .fieldLink RX7 327 "WrongWord$Gate" "guards" "I", .methodLink RX7 307 yX1_isA, .static yX1_isA, .initialized RX1, .code yX1_isA cX1_isA 4 (some .boolean), .fieldLink RX1 15 "WrongWord$Asks" "NEAREST_ABOVE" "[I", .methodLink RX7 68 yX7_unfound, .instanceMethod yX7_unfound, .selects RX7 yX7_unfound yX7_unfound, .code yX7_unfound cX7_unfound 2 (some .int), .fieldLink RX7 333 "WrongWord" "latestFinding" "I", .methodLink RX7 60 yX7_found, .instanceMethod yX7_found, .selects RX7 yX7_found yX7_found, .code yX7_found cX7_found 2 (some .int), .constant RX7 336 (-1000010)] ++ wsX70 ++ wsX20)
def wsX7_ask_r1 : List Cond := [Cond.constant RX7 59 (-1000001), Cond.fieldLink RX7 50 "WrongWord" "asks" "LWrongWord$Asks;", Cond.fieldLink RX7 25 "WrongWord" "gate" "LWrongWord$Gate;", Cond.fieldLink RX7 278 "WrongWord$Gate" "kinds" "[I", Cond.fieldLink RX7 209 "WrongWord$Gate" "fees" "[I", Cond.fieldLink RX7 137 "WrongWord$Gate" "now" "LWrongWord$Moment;", Cond.fieldLink RX7 212 "WrongWord$Moment" "took" "[I", Cond.methodLink RX7 187 yX7_isGuard, Cond.instanceMethod yX7_isGuard, Cond.selects RX7 yX7_isGuard yX7_isGuard, Cond.initialized RX7, Cond.code yX7_isGuard cX7_isGuard 2 (some .boolean), Cond.fieldLink RX7 327 "WrongWord$Gate" "guards" "I", Cond.methodLink RX7 310 yX1_turnTo, Cond.instanceMethod yX1_turnTo, Cond.selects RX1 yX1_turnTo yX1_turnTo, Cond.initialized RX1, Cond.code yX1_turnTo cX1_turnTo 5 none, Cond.fieldLink RX1 18 "WrongWord$Asks" "number" "I", Cond.fieldLink RX1 22 "WrongWord$Asks" "kind" "I", Cond.fieldLink RX1 25 "WrongWord$Asks" "fee" "I", Cond.fieldLink RX1 28 "WrongWord$Asks" "took" "I", Cond.fieldLink RX1 31 "WrongWord$Asks" "begun" "I", Cond.methodLink RX7 314 yX1_answer]
def wsX7_ask_r2 : List Cond := [Cond.instanceMethod yX1_answer, Cond.selects RX1 yX1_answer yX1_answer, Cond.code yX1_answer cX1_answer 2 (some .int), Cond.methodLink RX1 34 yX1_sizeBody, Cond.instanceMethod yX1_sizeBody, Cond.selects RX1 yX1_sizeBody yX1_sizeBody, Cond.code yX1_sizeBody cX1_sizeBody 1 (some .int), Cond.fieldLink RX1 45 "WrongWord$Asks" "SIZE_BODY" "[I", Cond.methodLink RX1 38 yX1_markBody, Cond.instanceMethod yX1_markBody, Cond.selects RX1 yX1_markBody yX1_markBody, Cond.code yX1_markBody cX1_markBody 1 (some .int), Cond.fieldLink RX1 48 "WrongWord$Asks" "MARK_BODY" "[I", Cond.methodLink RX1 41 yX1_given, Cond.static yX1_given, Cond.code yX1_given cX1_given 4 (some .int), Cond.methodLink RX1 51 yX1_leave, Cond.instanceMethod yX1_leave, Cond.selects RX1 yX1_leave yX1_leave, Cond.code yX1_leave cX1_leave 2 none, Cond.fieldLink RX1 11 "WrongWord$Asks" "bodies" "[I"]
def wsX7_ask : List Cond := .code yX7_ask cX7_ask 3 (some .int) :: ((wsX7_ask_r1 ++ wsX7_ask_r2) ++ wsX70 ++ wsX20 ++ wsX40 ++ wsX10)
def wsX7_trace : List Cond := .code yX7_trace cX7_trace 2 (some .int) :: ([.fieldLink RX7 50 "WrongWord" "asks" "LWrongWord$Asks;", .fieldLink RX7 317 "WrongWord$Asks" "begun" "I", .constant RX7 175 (-1000000), .fieldLink RX7 320 "WrongWord$Asks" "bodies" "[I"] ++ wsX70 ++ wsX10)
def wsX7_rowsThere : List Cond := .code yX7_rowsThere cX7_rowsThere 3 (some .int) :: ([.fieldLink RX7 11 "WrongWord" "rows" "[LWrongWord$Row;", .fieldLink RX7 78 "WrongWord$Row" "lane" "I"] ++ wsX70 ++ wsX50)
def wsX7_count_r1 : List Cond := [Cond.fieldLink RX7 25 "WrongWord" "gate" "LWrongWord$Gate;", Cond.fieldLink RX7 130 "WrongWord$Gate" "words" "I", Cond.fieldLink RX7 327 "WrongWord$Gate" "guards" "I", Cond.fieldLink RX7 137 "WrongWord$Gate" "now" "LWrongWord$Moment;", Cond.fieldLink RX7 141 "WrongWord$Moment" "night" "I", Cond.fieldLink RX7 162 "WrongWord$Moment" "tries" "I", Cond.fieldLink RX7 190 "WrongWord$Moment" "there" "I", Cond.fieldLink RX7 32 "WrongWord" "acts" "LWrongWord$Acts;", Cond.fieldLink RX7 197 "WrongWord$Acts" "kept" "I", Cond.fieldLink RX7 18 "WrongWord" "tape" "LWrongWord$Tape;", Cond.fieldLink RX7 102 "WrongWord$Tape" "length" "I", Cond.fieldLink RX7 184 "WrongWord$Moment" "start" "I", Cond.constant RX7 59 (-1000001), Cond.methodLink RX7 323 yX7_rowsThere, Cond.instanceMethod yX7_rowsThere, Cond.selects RX7 yX7_rowsThere yX7_rowsThere, Cond.initialized RX7, Cond.code yX7_rowsThere cX7_rowsThere 3 (some .int), Cond.fieldLink RX7 11 "WrongWord" "rows" "[LWrongWord$Row;", Cond.fieldLink RX7 78 "WrongWord$Row" "lane" "I", Cond.methodLink RX7 330 yX4_tookInAll, Cond.instanceMethod yX4_tookInAll, Cond.selects RX4 yX4_tookInAll yX4_tookInAll, Cond.initialized RX4]
def wsX7_count_r2 : List Cond := [Cond.code yX4_tookInAll cX4_tookInAll 3 (some .int), Cond.fieldLink RX4 9 "WrongWord$Moment" "took" "[I"]
def wsX7_count : List Cond := .code yX7_count cX7_count 2 (some .int) :: ((wsX7_count_r1 ++ wsX7_count_r2) ++ wsX70 ++ wsX20 ++ wsX40 ++ wsX00 ++ wsX60 ++ wsX50)
def wsX7_status : List Cond := .code yX7_status cX7_status 1 (some .int) :: ([.fieldLink RX7 333 "WrongWord" "latestFinding" "I"] ++ wsX70)
def wsX8_init : List Cond := .code yX8_init cX8_init 2 none :: ([.methodLink RX8 1 objectInit, .instanceMethod objectInit, .code objectInit ⟨#[0xb1]⟩ 1 none, .arrayClass .int, .fieldLink RX8 7 "WrongWordModel" "lane" "[I", .fieldLink RX8 13 "WrongWordModel" "many" "[I", .fieldLink RX8 16 "WrongWordModel" "items" "[I", .fieldLink RX8 19 "WrongWordModel" "spare" "[I", .fieldLink RX8 22 "WrongWordModel" "tape" "[I", .fieldLink RX8 25 "WrongWordModel" "now" "[I", .fieldLink RX8 28 "WrongWordModel" "draft" "[I", .fieldLink RX8 31 "WrongWordModel" "tried" "[I", .fieldLink RX8 34 "WrongWordModel" "past" "[I", .fieldLink RX8 37 "WrongWordModel" "images" "[I", .arrayClass .boolean, .fieldLink RX8 40 "WrongWordModel" "kept" "[Z", .fieldLink RX8 44 "WrongWordModel" "men" "[I", .fieldLink RX8 47 "WrongWordModel" "trace" "[I", .constant RX8 50 (-1000000)] ++ wsX80)
def wsX8_in : List Cond := .code yX8_in cX8_in 3 (some .boolean) :: ([])
def wsX8_has : List Cond := .code yX8_has cX8_has 2 (some .boolean) :: ([])
def wsX8_ones : List Cond := .code yX8_ones cX8_ones 3 (some .int) :: ([])
def wsX8_found : List Cond := .code yX8_found cX8_found 2 (some .int) :: ([.fieldLink RX8 51 "WrongWordModel" "status" "I", .constant RX8 55 (-1000010)] ++ wsX80)
def wsX8_well : List Cond := .code yX8_well cX8_well 2 (some .int) :: ([.fieldLink RX8 51 "WrongWordModel" "status" "I"] ++ wsX80)
def wsX8_copies : List Cond := .code yX8_copies cX8_copies 5 none :: ([])
def wsX8_isRow : List Cond := .code yX8_isRow cX8_isRow 1 (some .boolean) :: ([.methodLink RX8 56 yX8_in, .static yX8_in, .initialized RX8, .code yX8_in cX8_in 3 (some .boolean)])
def wsX8_isMissing : List Cond := .code yX8_isMissing cX8_isMissing 2 (some .boolean) :: ([.fieldLink RX8 7 "WrongWordModel" "lane" "[I", .constant RX8 50 (-1000000)] ++ wsX80)
def wsX8_cut : List Cond := .code yX8_cut cX8_cut 2 (some .int) :: ([])
def wsX8_row : List Cond := .code yX8_row cX8_row 5 (some .int) :: ([.constant RX8 64 (-1000001), .fieldLink RX8 7 "WrongWordModel" "lane" "[I", .fieldLink RX8 13 "WrongWordModel" "many" "[I", .fieldLink RX8 16 "WrongWordModel" "items" "[I", .methodLink RX8 60 yX8_isRow, .static yX8_isRow, .initialized RX8, .code yX8_isRow cX8_isRow 1 (some .boolean), .methodLink RX8 56 yX8_in, .static yX8_in, .code yX8_in cX8_in 3 (some .boolean), .methodLink RX8 65 yX8_found, .instanceMethod yX8_found, .selects RX8 yX8_found yX8_found, .code yX8_found cX8_found 2 (some .int), .fieldLink RX8 51 "WrongWordModel" "status" "I", .constant RX8 55 (-1000010), .methodLink RX8 69 yX8_well, .instanceMethod yX8_well, .selects RX8 yX8_well yX8_well, .code yX8_well cX8_well 2 (some .int)] ++ wsX80)
def wsX8_set_r1 : List Cond := [Cond.constant RX8 64 (-1000001), Cond.fieldLink RX8 13 "WrongWordModel" "many" "[I", Cond.fieldLink RX8 16 "WrongWordModel" "items" "[I", Cond.fieldLink RX8 7 "WrongWordModel" "lane" "[I", Cond.methodLink RX8 60 yX8_isRow, Cond.static yX8_isRow, Cond.initialized RX8, Cond.code yX8_isRow cX8_isRow 1 (some .boolean), Cond.methodLink RX8 56 yX8_in, Cond.static yX8_in, Cond.code yX8_in cX8_in 3 (some .boolean), Cond.methodLink RX8 72 yX8_isMissing, Cond.instanceMethod yX8_isMissing, Cond.selects RX8 yX8_isMissing yX8_isMissing, Cond.code yX8_isMissing cX8_isMissing 2 (some .boolean), Cond.constant RX8 50 (-1000000), Cond.methodLink RX8 65 yX8_found, Cond.instanceMethod yX8_found, Cond.selects RX8 yX8_found yX8_found, Cond.code yX8_found cX8_found 2 (some .int), Cond.fieldLink RX8 51 "WrongWordModel" "status" "I", Cond.constant RX8 55 (-1000010), Cond.methodLink RX8 75 yX8_cut, Cond.static yX8_cut]
def wsX8_set_r2 : List Cond := [Cond.code yX8_cut cX8_cut 2 (some .int), Cond.methodLink RX8 69 yX8_well, Cond.instanceMethod yX8_well, Cond.selects RX8 yX8_well yX8_well, Cond.code yX8_well cX8_well 2 (some .int)]
def wsX8_set : List Cond := .code yX8_set cX8_set 4 (some .int) :: ((wsX8_set_r1 ++ wsX8_set_r2) ++ wsX80)
def wsX8_isPart : List Cond := .code yX8_isPart cX8_isPart 4 (some .boolean) :: ([.fieldLink RX8 13 "WrongWordModel" "many" "[I"] ++ wsX80)
def wsX8_copy_r1 : List Cond := [Cond.constant RX8 64 (-1000001), Cond.fieldLink RX8 7 "WrongWordModel" "lane" "[I", Cond.fieldLink RX8 19 "WrongWordModel" "spare" "[I", Cond.fieldLink RX8 16 "WrongWordModel" "items" "[I", Cond.methodLink RX8 60 yX8_isRow, Cond.static yX8_isRow, Cond.initialized RX8, Cond.code yX8_isRow cX8_isRow 1 (some .boolean), Cond.methodLink RX8 56 yX8_in, Cond.static yX8_in, Cond.code yX8_in cX8_in 3 (some .boolean), Cond.methodLink RX8 72 yX8_isMissing, Cond.instanceMethod yX8_isMissing, Cond.selects RX8 yX8_isMissing yX8_isMissing, Cond.code yX8_isMissing cX8_isMissing 2 (some .boolean), Cond.constant RX8 50 (-1000000), Cond.methodLink RX8 65 yX8_found, Cond.instanceMethod yX8_found, Cond.selects RX8 yX8_found yX8_found, Cond.code yX8_found cX8_found 2 (some .int), Cond.fieldLink RX8 51 "WrongWordModel" "status" "I", Cond.constant RX8 55 (-1000010), Cond.methodLink RX8 79 yX8_isPart, Cond.instanceMethod yX8_isPart]
def wsX8_copy_r2 : List Cond := [Cond.selects RX8 yX8_isPart yX8_isPart, Cond.code yX8_isPart cX8_isPart 4 (some .boolean), Cond.fieldLink RX8 13 "WrongWordModel" "many" "[I", Cond.methodLink RX8 69 yX8_well, Cond.instanceMethod yX8_well, Cond.selects RX8 yX8_well yX8_well, Cond.code yX8_well cX8_well 2 (some .int)]
def wsX8_copy : List Cond := .code yX8_copy cX8_copy 7 (some .int) :: ((wsX8_copy_r1 ++ wsX8_copy_r2) ++ wsX80)
def wsX8_drop_r1 : List Cond := [Cond.constant RX8 64 (-1000001), Cond.fieldLink RX8 7 "WrongWordModel" "lane" "[I", Cond.constant RX8 50 (-1000000), Cond.fieldLink RX8 13 "WrongWordModel" "many" "[I", Cond.methodLink RX8 60 yX8_isRow, Cond.static yX8_isRow, Cond.initialized RX8, Cond.code yX8_isRow cX8_isRow 1 (some .boolean), Cond.methodLink RX8 56 yX8_in, Cond.static yX8_in, Cond.code yX8_in cX8_in 3 (some .boolean), Cond.methodLink RX8 72 yX8_isMissing, Cond.instanceMethod yX8_isMissing, Cond.selects RX8 yX8_isMissing yX8_isMissing, Cond.code yX8_isMissing cX8_isMissing 2 (some .boolean), Cond.methodLink RX8 65 yX8_found, Cond.instanceMethod yX8_found, Cond.selects RX8 yX8_found yX8_found, Cond.code yX8_found cX8_found 2 (some .int), Cond.fieldLink RX8 51 "WrongWordModel" "status" "I", Cond.constant RX8 55 (-1000010), Cond.methodLink RX8 69 yX8_well, Cond.instanceMethod yX8_well, Cond.selects RX8 yX8_well yX8_well]
def wsX8_drop_r2 : List Cond := [Cond.code yX8_well cX8_well 2 (some .int)]
def wsX8_drop : List Cond := .code yX8_drop cX8_drop 2 (some .int) :: ((wsX8_drop_r1 ++ wsX8_drop_r2) ++ wsX80)
def wsX8_feed : List Cond := .code yX8_feed cX8_feed 2 (some .int) :: ([.constant RX8 64 (-1000001), .fieldLink RX8 82 "WrongWordModel" "taped" "I", .constant RX8 85 (-1000003), .fieldLink RX8 22 "WrongWordModel" "tape" "[I", .methodLink RX8 56 yX8_in, .static yX8_in, .initialized RX8, .code yX8_in cX8_in 3 (some .boolean)] ++ wsX80)
def wsX8_byteAt : List Cond := .code yX8_byteAt cX8_byteAt 2 (some .int) :: ([.fieldLink RX8 82 "WrongWordModel" "taped" "I", .fieldLink RX8 22 "WrongWordModel" "tape" "[I"] ++ wsX80)
def wsX8_advances : List Cond := .code yX8_advances cX8_advances 2 none :: ([.fieldLink RX8 86 "WrongWordModel" "at" "I", .fieldLink RX8 89 "WrongWordModel" "start" "I", .fieldLink RX8 95 "WrongWordModel" "value" "I", .fieldLink RX8 98 "WrongWordModel" "token" "I", .methodLink RX8 92 yX8_byteAt, .instanceMethod yX8_byteAt, .selects RX8 yX8_byteAt yX8_byteAt, .initialized RX8, .code yX8_byteAt cX8_byteAt 2 (some .int), .fieldLink RX8 82 "WrongWordModel" "taped" "I", .fieldLink RX8 22 "WrongWordModel" "tape" "[I", .methodLink RX8 56 yX8_in, .static yX8_in, .code yX8_in cX8_in 3 (some .boolean)] ++ wsX80)
def wsX8_isWell : List Cond := .code yX8_isWell cX8_isWell 1 (some .boolean) :: ([.fieldLink RX8 101 "WrongWordModel" "faultPlace" "I"] ++ wsX80)
def wsX8_takes : List Cond := .code yX8_takes cX8_takes 4 (some .int) :: ([.fieldLink RX8 89 "WrongWordModel" "start" "I", .fieldLink RX8 101 "WrongWordModel" "faultPlace" "I", .fieldLink RX8 108 "WrongWordModel" "faultKind" "I", .fieldLink RX8 95 "WrongWordModel" "value" "I", .methodLink RX8 104 yX8_isWell, .instanceMethod yX8_isWell, .selects RX8 yX8_isWell yX8_isWell, .initialized RX8, .code yX8_isWell cX8_isWell 1 (some .boolean), .methodLink RX8 111 yX8_advances, .instanceMethod yX8_advances, .selects RX8 yX8_advances yX8_advances, .code yX8_advances cX8_advances 2 none, .fieldLink RX8 86 "WrongWordModel" "at" "I", .fieldLink RX8 98 "WrongWordModel" "token" "I", .methodLink RX8 92 yX8_byteAt, .instanceMethod yX8_byteAt, .selects RX8 yX8_byteAt yX8_byteAt, .code yX8_byteAt cX8_byteAt 2 (some .int), .fieldLink RX8 82 "WrongWordModel" "taped" "I", .fieldLink RX8 22 "WrongWordModel" "tape" "[I", .methodLink RX8 56 yX8_in, .static yX8_in, .code yX8_in cX8_in 3 (some .boolean)] ++ wsX80)
def wsX8_figure_r1 : List Cond := [Cond.fieldLink RX8 98 "WrongWordModel" "token" "I", Cond.fieldLink RX8 95 "WrongWordModel" "value" "I", Cond.methodLink RX8 104 yX8_isWell, Cond.instanceMethod yX8_isWell, Cond.selects RX8 yX8_isWell yX8_isWell, Cond.initialized RX8, Cond.code yX8_isWell cX8_isWell 1 (some .boolean), Cond.fieldLink RX8 101 "WrongWordModel" "faultPlace" "I", Cond.methodLink RX8 114 yX8_takes, Cond.instanceMethod yX8_takes, Cond.selects RX8 yX8_takes yX8_takes, Cond.code yX8_takes cX8_takes 4 (some .int), Cond.fieldLink RX8 89 "WrongWordModel" "start" "I", Cond.fieldLink RX8 108 "WrongWordModel" "faultKind" "I", Cond.methodLink RX8 111 yX8_advances, Cond.instanceMethod yX8_advances, Cond.selects RX8 yX8_advances yX8_advances, Cond.code yX8_advances cX8_advances 2 none, Cond.fieldLink RX8 86 "WrongWordModel" "at" "I", Cond.methodLink RX8 92 yX8_byteAt, Cond.instanceMethod yX8_byteAt, Cond.selects RX8 yX8_byteAt yX8_byteAt, Cond.code yX8_byteAt cX8_byteAt 2 (some .int), Cond.fieldLink RX8 82 "WrongWordModel" "taped" "I"]
def wsX8_figure_r2 : List Cond := [Cond.fieldLink RX8 22 "WrongWordModel" "tape" "[I", Cond.methodLink RX8 56 yX8_in, Cond.static yX8_in, Cond.code yX8_in cX8_in 3 (some .boolean)]
def wsX8_figure : List Cond := .code yX8_figure cX8_figure 3 (some .int) :: ((wsX8_figure_r1 ++ wsX8_figure_r2) ++ wsX80)
def wsX8_kindOf : List Cond := .code yX8_kindOf cX8_kindOf 1 (some .int) :: ([])
def wsX8_follows_r1 : List Cond := [Cond.fieldLink RX8 98 "WrongWordModel" "token" "I", Cond.methodLink RX8 114 yX8_takes, Cond.instanceMethod yX8_takes, Cond.selects RX8 yX8_takes yX8_takes, Cond.initialized RX8, Cond.code yX8_takes cX8_takes 4 (some .int), Cond.fieldLink RX8 89 "WrongWordModel" "start" "I", Cond.fieldLink RX8 101 "WrongWordModel" "faultPlace" "I", Cond.fieldLink RX8 108 "WrongWordModel" "faultKind" "I", Cond.fieldLink RX8 95 "WrongWordModel" "value" "I", Cond.methodLink RX8 104 yX8_isWell, Cond.instanceMethod yX8_isWell, Cond.selects RX8 yX8_isWell yX8_isWell, Cond.code yX8_isWell cX8_isWell 1 (some .boolean), Cond.methodLink RX8 111 yX8_advances, Cond.instanceMethod yX8_advances, Cond.selects RX8 yX8_advances yX8_advances, Cond.code yX8_advances cX8_advances 2 none, Cond.fieldLink RX8 86 "WrongWordModel" "at" "I", Cond.methodLink RX8 92 yX8_byteAt, Cond.instanceMethod yX8_byteAt, Cond.selects RX8 yX8_byteAt yX8_byteAt, Cond.code yX8_byteAt cX8_byteAt 2 (some .int), Cond.fieldLink RX8 82 "WrongWordModel" "taped" "I"]
def wsX8_follows_r2 : List Cond := [Cond.fieldLink RX8 22 "WrongWordModel" "tape" "[I", Cond.methodLink RX8 56 yX8_in, Cond.static yX8_in, Cond.code yX8_in cX8_in 3 (some .boolean), Cond.methodLink RX8 118 yX8_figure, Cond.instanceMethod yX8_figure, Cond.selects RX8 yX8_figure yX8_figure, Cond.code yX8_figure cX8_figure 3 (some .int)]
def wsX8_follows : List Cond := .code yX8_follows cX8_follows 3 (some .int) :: ((wsX8_follows_r1 ++ wsX8_follows_r2) ++ wsX80)
def wsX8_isTold : List Cond := .code yX8_isTold cX8_isTold 7 (some .boolean) :: ([.fieldLink RX8 28 "WrongWordModel" "draft" "[I"] ++ wsX80)
def wsX8_letterOf_r1 : List Cond := [Cond.fieldLink RX8 98 "WrongWordModel" "token" "I", Cond.methodLink RX8 114 yX8_takes, Cond.instanceMethod yX8_takes, Cond.selects RX8 yX8_takes yX8_takes, Cond.initialized RX8, Cond.code yX8_takes cX8_takes 4 (some .int), Cond.fieldLink RX8 89 "WrongWordModel" "start" "I", Cond.fieldLink RX8 101 "WrongWordModel" "faultPlace" "I", Cond.fieldLink RX8 108 "WrongWordModel" "faultKind" "I", Cond.fieldLink RX8 95 "WrongWordModel" "value" "I", Cond.methodLink RX8 104 yX8_isWell, Cond.instanceMethod yX8_isWell, Cond.selects RX8 yX8_isWell yX8_isWell, Cond.code yX8_isWell cX8_isWell 1 (some .boolean), Cond.methodLink RX8 111 yX8_advances, Cond.instanceMethod yX8_advances, Cond.selects RX8 yX8_advances yX8_advances, Cond.code yX8_advances cX8_advances 2 none, Cond.fieldLink RX8 86 "WrongWordModel" "at" "I", Cond.methodLink RX8 92 yX8_byteAt, Cond.instanceMethod yX8_byteAt, Cond.selects RX8 yX8_byteAt yX8_byteAt, Cond.code yX8_byteAt cX8_byteAt 2 (some .int), Cond.fieldLink RX8 82 "WrongWordModel" "taped" "I"]
def wsX8_letterOf_r2 : List Cond := [Cond.fieldLink RX8 22 "WrongWordModel" "tape" "[I", Cond.methodLink RX8 56 yX8_in, Cond.static yX8_in, Cond.code yX8_in cX8_in 3 (some .boolean)]
def wsX8_letterOf : List Cond := .code yX8_letterOf cX8_letterOf 1 (some .int) :: ((wsX8_letterOf_r1 ++ wsX8_letterOf_r2) ++ wsX80)
def wsX8_readsWord_r1 : List Cond := [Cond.fieldLink RX8 28 "WrongWordModel" "draft" "[I", Cond.fieldLink RX8 98 "WrongWordModel" "token" "I", Cond.fieldLink RX8 95 "WrongWordModel" "value" "I", Cond.methodLink RX8 114 yX8_takes, Cond.instanceMethod yX8_takes, Cond.selects RX8 yX8_takes yX8_takes, Cond.initialized RX8, Cond.code yX8_takes cX8_takes 4 (some .int), Cond.fieldLink RX8 89 "WrongWordModel" "start" "I", Cond.fieldLink RX8 101 "WrongWordModel" "faultPlace" "I", Cond.fieldLink RX8 108 "WrongWordModel" "faultKind" "I", Cond.methodLink RX8 104 yX8_isWell, Cond.instanceMethod yX8_isWell, Cond.selects RX8 yX8_isWell yX8_isWell, Cond.code yX8_isWell cX8_isWell 1 (some .boolean), Cond.methodLink RX8 111 yX8_advances, Cond.instanceMethod yX8_advances, Cond.selects RX8 yX8_advances yX8_advances, Cond.code yX8_advances cX8_advances 2 none, Cond.fieldLink RX8 86 "WrongWordModel" "at" "I", Cond.methodLink RX8 92 yX8_byteAt, Cond.instanceMethod yX8_byteAt, Cond.selects RX8 yX8_byteAt yX8_byteAt, Cond.code yX8_byteAt cX8_byteAt 2 (some .int)]
def wsX8_readsWord_r2 : List Cond := [Cond.fieldLink RX8 82 "WrongWordModel" "taped" "I", Cond.fieldLink RX8 22 "WrongWordModel" "tape" "[I", Cond.methodLink RX8 56 yX8_in, Cond.static yX8_in, Cond.code yX8_in cX8_in 3 (some .boolean), Cond.methodLink RX8 121 yX8_letterOf, Cond.instanceMethod yX8_letterOf, Cond.selects RX8 yX8_letterOf yX8_letterOf, Cond.code yX8_letterOf cX8_letterOf 1 (some .int), Cond.methodLink RX8 125 yX8_isTold, Cond.instanceMethod yX8_isTold, Cond.selects RX8 yX8_isTold yX8_isTold, Cond.code yX8_isTold cX8_isTold 7 (some .boolean)]
def wsX8_readsWord : List Cond := .code yX8_readsWord cX8_readsWord 5 none :: ((wsX8_readsWord_r1 ++ wsX8_readsWord_r2) ++ wsX80)
def wsX8_readsGuard_r1 : List Cond := [Cond.fieldLink RX8 95 "WrongWordModel" "value" "I", Cond.fieldLink RX8 28 "WrongWordModel" "draft" "[I", Cond.fieldLink RX8 98 "WrongWordModel" "token" "I", Cond.methodLink RX8 128 yX8_kindOf, Cond.static yX8_kindOf, Cond.initialized RX8, Cond.code yX8_kindOf cX8_kindOf 1 (some .int), Cond.methodLink RX8 114 yX8_takes, Cond.instanceMethod yX8_takes, Cond.selects RX8 yX8_takes yX8_takes, Cond.code yX8_takes cX8_takes 4 (some .int), Cond.fieldLink RX8 89 "WrongWordModel" "start" "I", Cond.fieldLink RX8 101 "WrongWordModel" "faultPlace" "I", Cond.fieldLink RX8 108 "WrongWordModel" "faultKind" "I", Cond.methodLink RX8 104 yX8_isWell, Cond.instanceMethod yX8_isWell, Cond.selects RX8 yX8_isWell yX8_isWell, Cond.code yX8_isWell cX8_isWell 1 (some .boolean), Cond.methodLink RX8 111 yX8_advances, Cond.instanceMethod yX8_advances, Cond.selects RX8 yX8_advances yX8_advances, Cond.code yX8_advances cX8_advances 2 none, Cond.fieldLink RX8 86 "WrongWordModel" "at" "I", Cond.methodLink RX8 92 yX8_byteAt]
def wsX8_readsGuard_r2 : List Cond := [Cond.instanceMethod yX8_byteAt, Cond.selects RX8 yX8_byteAt yX8_byteAt, Cond.code yX8_byteAt cX8_byteAt 2 (some .int), Cond.fieldLink RX8 82 "WrongWordModel" "taped" "I", Cond.fieldLink RX8 22 "WrongWordModel" "tape" "[I", Cond.methodLink RX8 56 yX8_in, Cond.static yX8_in, Cond.code yX8_in cX8_in 3 (some .boolean), Cond.methodLink RX8 118 yX8_figure, Cond.instanceMethod yX8_figure, Cond.selects RX8 yX8_figure yX8_figure, Cond.code yX8_figure cX8_figure 3 (some .int)]
def wsX8_readsGuard : List Cond := .code yX8_readsGuard cX8_readsGuard 4 none :: ((wsX8_readsGuard_r1 ++ wsX8_readsGuard_r2) ++ wsX80)
def wsX8_must_r1 : List Cond := [Cond.methodLink RX8 104 yX8_isWell, Cond.instanceMethod yX8_isWell, Cond.selects RX8 yX8_isWell yX8_isWell, Cond.initialized RX8, Cond.code yX8_isWell cX8_isWell 1 (some .boolean), Cond.fieldLink RX8 101 "WrongWordModel" "faultPlace" "I", Cond.methodLink RX8 114 yX8_takes, Cond.instanceMethod yX8_takes, Cond.selects RX8 yX8_takes yX8_takes, Cond.code yX8_takes cX8_takes 4 (some .int), Cond.fieldLink RX8 89 "WrongWordModel" "start" "I", Cond.fieldLink RX8 108 "WrongWordModel" "faultKind" "I", Cond.fieldLink RX8 95 "WrongWordModel" "value" "I", Cond.methodLink RX8 111 yX8_advances, Cond.instanceMethod yX8_advances, Cond.selects RX8 yX8_advances yX8_advances, Cond.code yX8_advances cX8_advances 2 none, Cond.fieldLink RX8 86 "WrongWordModel" "at" "I", Cond.fieldLink RX8 98 "WrongWordModel" "token" "I", Cond.methodLink RX8 92 yX8_byteAt, Cond.instanceMethod yX8_byteAt, Cond.selects RX8 yX8_byteAt yX8_byteAt, Cond.code yX8_byteAt cX8_byteAt 2 (some .int), Cond.fieldLink RX8 82 "WrongWordModel" "taped" "I"]
def wsX8_must_r2 : List Cond := [Cond.fieldLink RX8 22 "WrongWordModel" "tape" "[I", Cond.methodLink RX8 56 yX8_in, Cond.static yX8_in, Cond.code yX8_in cX8_in 3 (some .boolean)]
def wsX8_must : List Cond := .code yX8_must cX8_must 2 none :: ((wsX8_must_r1 ++ wsX8_must_r2) ++ wsX80)
def wsX8_gate_r1 : List Cond := [Cond.fieldLink RX8 28 "WrongWordModel" "draft" "[I", Cond.fieldLink RX8 86 "WrongWordModel" "at" "I", Cond.fieldLink RX8 101 "WrongWordModel" "faultPlace" "I", Cond.fieldLink RX8 98 "WrongWordModel" "token" "I", Cond.fieldLink RX8 95 "WrongWordModel" "value" "I", Cond.fieldLink RX8 82 "WrongWordModel" "taped" "I", Cond.constant RX8 144 (-1000100), Cond.fieldLink RX8 25 "WrongWordModel" "now" "[I", Cond.fieldLink RX8 149 "WrongWordModel" "acts" "I", Cond.methodLink RX8 111 yX8_advances, Cond.instanceMethod yX8_advances, Cond.selects RX8 yX8_advances yX8_advances, Cond.initialized RX8, Cond.code yX8_advances cX8_advances 2 none, Cond.fieldLink RX8 89 "WrongWordModel" "start" "I", Cond.methodLink RX8 92 yX8_byteAt, Cond.instanceMethod yX8_byteAt, Cond.selects RX8 yX8_byteAt yX8_byteAt, Cond.code yX8_byteAt cX8_byteAt 2 (some .int), Cond.fieldLink RX8 22 "WrongWordModel" "tape" "[I", Cond.methodLink RX8 56 yX8_in, Cond.static yX8_in, Cond.code yX8_in cX8_in 3 (some .boolean), Cond.methodLink RX8 114 yX8_takes]
def wsX8_gate_r2 : List Cond := [Cond.instanceMethod yX8_takes, Cond.selects RX8 yX8_takes yX8_takes, Cond.code yX8_takes cX8_takes 4 (some .int), Cond.fieldLink RX8 108 "WrongWordModel" "faultKind" "I", Cond.methodLink RX8 104 yX8_isWell, Cond.instanceMethod yX8_isWell, Cond.selects RX8 yX8_isWell yX8_isWell, Cond.code yX8_isWell cX8_isWell 1 (some .boolean), Cond.methodLink RX8 118 yX8_figure, Cond.instanceMethod yX8_figure, Cond.selects RX8 yX8_figure yX8_figure, Cond.code yX8_figure cX8_figure 3 (some .int), Cond.methodLink RX8 131 yX8_follows, Cond.instanceMethod yX8_follows, Cond.selects RX8 yX8_follows yX8_follows, Cond.code yX8_follows cX8_follows 3 (some .int), Cond.methodLink RX8 134 yX8_must, Cond.instanceMethod yX8_must, Cond.selects RX8 yX8_must yX8_must, Cond.code yX8_must cX8_must 2 none, Cond.methodLink RX8 138 yX8_readsWord, Cond.instanceMethod yX8_readsWord, Cond.selects RX8 yX8_readsWord yX8_readsWord, Cond.code yX8_readsWord cX8_readsWord 5 none]
def wsX8_gate_r3 : List Cond := [Cond.methodLink RX8 121 yX8_letterOf, Cond.instanceMethod yX8_letterOf, Cond.selects RX8 yX8_letterOf yX8_letterOf, Cond.code yX8_letterOf cX8_letterOf 1 (some .int), Cond.methodLink RX8 125 yX8_isTold, Cond.instanceMethod yX8_isTold, Cond.selects RX8 yX8_isTold yX8_isTold, Cond.code yX8_isTold cX8_isTold 7 (some .boolean), Cond.methodLink RX8 128 yX8_kindOf, Cond.static yX8_kindOf, Cond.code yX8_kindOf cX8_kindOf 1 (some .int), Cond.methodLink RX8 141 yX8_readsGuard, Cond.instanceMethod yX8_readsGuard, Cond.selects RX8 yX8_readsGuard yX8_readsGuard, Cond.code yX8_readsGuard cX8_readsGuard 4 none, Cond.methodLink RX8 145 yX8_copies, Cond.static yX8_copies, Cond.code yX8_copies cX8_copies 5 none]
def wsX8_gate : List Cond := .code yX8_gate cX8_gate 2 (some .int) :: ((wsX8_gate_r1 ++ (wsX8_gate_r2 ++ wsX8_gate_r3)) ++ wsX80)
def wsX8_fault : List Cond := .code yX8_fault cX8_fault 1 (some .int) :: ([.fieldLink RX8 108 "WrongWordModel" "faultKind" "I"] ++ wsX80)
def wsX8_isGate : List Cond := .code yX8_isGate cX8_isGate 1 (some .boolean) :: ([.fieldLink RX8 25 "WrongWordModel" "now" "[I"] ++ wsX80)
def wsX8_isWord : List Cond := .code yX8_isWord cX8_isWord 2 (some .boolean) :: ([.fieldLink RX8 25 "WrongWordModel" "now" "[I", .methodLink RX8 56 yX8_in, .static yX8_in, .initialized RX8, .code yX8_in cX8_in 3 (some .boolean)] ++ wsX80)
def wsX8_isGuard : List Cond := .code yX8_isGuard cX8_isGuard 2 (some .boolean) :: ([.fieldLink RX8 25 "WrongWordModel" "now" "[I", .methodLink RX8 56 yX8_in, .static yX8_in, .initialized RX8, .code yX8_in cX8_in 3 (some .boolean)] ++ wsX80)
def wsX8_isHour : List Cond := .code yX8_isHour cX8_isHour 1 (some .boolean) :: ([.methodLink RX8 56 yX8_in, .static yX8_in, .initialized RX8, .code yX8_in cX8_in 3 (some .boolean)])
def wsX8_isFar : List Cond := .code yX8_isFar cX8_isFar 1 (some .boolean) :: ([.methodLink RX8 56 yX8_in, .static yX8_in, .initialized RX8, .code yX8_in cX8_in 3 (some .boolean)])
def wsX8_areWords : List Cond := .code yX8_areWords cX8_areWords 2 (some .boolean) :: ([.fieldLink RX8 25 "WrongWordModel" "now" "[I", .methodLink RX8 56 yX8_in, .static yX8_in, .initialized RX8, .code yX8_in cX8_in 3 (some .boolean)] ++ wsX80)
def wsX8_secretOf : List Cond := .code yX8_secretOf cX8_secretOf 2 (some .int) :: ([])
def wsX8_distance : List Cond := .code yX8_distance cX8_distance 5 (some .int) :: ([.fieldLink RX8 25 "WrongWordModel" "now" "[I"] ++ wsX80)
def wsX8_lips : List Cond := .code yX8_lips cX8_lips 5 (some .int) :: ([.fieldLink RX8 25 "WrongWordModel" "now" "[I"] ++ wsX80)
def wsX8_takesBy : List Cond := .code yX8_takesBy cX8_takesBy 5 (some .boolean) :: ([.methodLink RX8 152 yX8_distance, .instanceMethod yX8_distance, .selects RX8 yX8_distance yX8_distance, .initialized RX8, .code yX8_distance cX8_distance 5 (some .int), .fieldLink RX8 25 "WrongWordModel" "now" "[I", .methodLink RX8 155 yX8_lips, .instanceMethod yX8_lips, .selects RX8 yX8_lips yX8_lips, .code yX8_lips cX8_lips 5 (some .int)] ++ wsX80)
def wsX8_guardOn : List Cond := .code yX8_guardOn cX8_guardOn 3 (some .int) :: ([.fieldLink RX8 25 "WrongWordModel" "now" "[I"] ++ wsX80)
def wsX8_kindIn : List Cond := .code yX8_kindIn cX8_kindIn 2 (some .int) :: ([.fieldLink RX8 25 "WrongWordModel" "now" "[I"] ++ wsX80)
def wsX8_isTaken_r1 : List Cond := [Cond.methodLink RX8 158 yX8_guardOn, Cond.instanceMethod yX8_guardOn, Cond.selects RX8 yX8_guardOn yX8_guardOn, Cond.initialized RX8, Cond.code yX8_guardOn cX8_guardOn 3 (some .int), Cond.fieldLink RX8 25 "WrongWordModel" "now" "[I", Cond.methodLink RX8 161 yX8_has, Cond.static yX8_has, Cond.code yX8_has cX8_has 2 (some .boolean), Cond.methodLink RX8 165 yX8_kindIn, Cond.instanceMethod yX8_kindIn, Cond.selects RX8 yX8_kindIn yX8_kindIn, Cond.code yX8_kindIn cX8_kindIn 2 (some .int), Cond.methodLink RX8 168 yX8_takesBy, Cond.instanceMethod yX8_takesBy, Cond.selects RX8 yX8_takesBy yX8_takesBy, Cond.code yX8_takesBy cX8_takesBy 5 (some .boolean), Cond.methodLink RX8 152 yX8_distance, Cond.instanceMethod yX8_distance, Cond.selects RX8 yX8_distance yX8_distance, Cond.code yX8_distance cX8_distance 5 (some .int), Cond.methodLink RX8 155 yX8_lips, Cond.instanceMethod yX8_lips, Cond.selects RX8 yX8_lips yX8_lips]
def wsX8_isTaken_r2 : List Cond := [Cond.code yX8_lips cX8_lips 5 (some .int)]
def wsX8_isTaken : List Cond := .code yX8_isTaken cX8_isTaken 7 (some .boolean) :: ((wsX8_isTaken_r1 ++ wsX8_isTaken_r2) ++ wsX80)
def wsX8_isTakenNow_r1 : List Cond := [Cond.fieldLink RX8 25 "WrongWordModel" "now" "[I", Cond.methodLink RX8 172 yX8_secretOf, Cond.static yX8_secretOf, Cond.initialized RX8, Cond.code yX8_secretOf cX8_secretOf 2 (some .int), Cond.methodLink RX8 176 yX8_isTaken, Cond.instanceMethod yX8_isTaken, Cond.selects RX8 yX8_isTaken yX8_isTaken, Cond.code yX8_isTaken cX8_isTaken 7 (some .boolean), Cond.methodLink RX8 158 yX8_guardOn, Cond.instanceMethod yX8_guardOn, Cond.selects RX8 yX8_guardOn yX8_guardOn, Cond.code yX8_guardOn cX8_guardOn 3 (some .int), Cond.methodLink RX8 161 yX8_has, Cond.static yX8_has, Cond.code yX8_has cX8_has 2 (some .boolean), Cond.methodLink RX8 165 yX8_kindIn, Cond.instanceMethod yX8_kindIn, Cond.selects RX8 yX8_kindIn yX8_kindIn, Cond.code yX8_kindIn cX8_kindIn 2 (some .int), Cond.methodLink RX8 168 yX8_takesBy, Cond.instanceMethod yX8_takesBy, Cond.selects RX8 yX8_takesBy yX8_takesBy, Cond.code yX8_takesBy cX8_takesBy 5 (some .boolean)]
def wsX8_isTakenNow_r2 : List Cond := [Cond.methodLink RX8 152 yX8_distance, Cond.instanceMethod yX8_distance, Cond.selects RX8 yX8_distance yX8_distance, Cond.code yX8_distance cX8_distance 5 (some .int), Cond.methodLink RX8 155 yX8_lips, Cond.instanceMethod yX8_lips, Cond.selects RX8 yX8_lips yX8_lips, Cond.code yX8_lips cX8_lips 5 (some .int)]
def wsX8_isTakenNow : List Cond := .code yX8_isTakenNow cX8_isTakenNow 5 (some .boolean) :: ((wsX8_isTakenNow_r1 ++ wsX8_isTakenNow_r2) ++ wsX80)
def wsX8_notes : List Cond := .code yX8_notes cX8_notes 2 none :: ([.fieldLink RX8 149 "WrongWordModel" "acts" "I", .fieldLink RX8 34 "WrongWordModel" "past" "[I", .fieldLink RX8 25 "WrongWordModel" "now" "[I", .methodLink RX8 145 yX8_copies, .static yX8_copies, .initialized RX8, .code yX8_copies cX8_copies 5 none] ++ wsX80)
def wsX8_forgets : List Cond := .code yX8_forgets cX8_forgets 2 none :: ([.fieldLink RX8 25 "WrongWordModel" "now" "[I"] ++ wsX80)
def wsX8_nights_r1 : List Cond := [Cond.constant RX8 183 (-1000002), Cond.constant RX8 64 (-1000001), Cond.fieldLink RX8 25 "WrongWordModel" "now" "[I", Cond.constant RX8 85 (-1000003), Cond.methodLink RX8 180 yX8_isGate, Cond.instanceMethod yX8_isGate, Cond.selects RX8 yX8_isGate yX8_isGate, Cond.initialized RX8, Cond.code yX8_isGate cX8_isGate 1 (some .boolean), Cond.methodLink RX8 56 yX8_in, Cond.static yX8_in, Cond.code yX8_in cX8_in 3 (some .boolean), Cond.methodLink RX8 184 yX8_notes, Cond.instanceMethod yX8_notes, Cond.selects RX8 yX8_notes yX8_notes, Cond.code yX8_notes cX8_notes 2 none, Cond.fieldLink RX8 149 "WrongWordModel" "acts" "I", Cond.fieldLink RX8 34 "WrongWordModel" "past" "[I", Cond.methodLink RX8 145 yX8_copies, Cond.static yX8_copies, Cond.code yX8_copies cX8_copies 5 none, Cond.methodLink RX8 187 yX8_forgets, Cond.instanceMethod yX8_forgets, Cond.selects RX8 yX8_forgets yX8_forgets]
def wsX8_nights_r2 : List Cond := [Cond.code yX8_forgets cX8_forgets 2 none, Cond.methodLink RX8 172 yX8_secretOf, Cond.static yX8_secretOf, Cond.code yX8_secretOf cX8_secretOf 2 (some .int)]
def wsX8_nights : List Cond := .code yX8_nights cX8_nights 3 (some .int) :: ((wsX8_nights_r1 ++ wsX8_nights_r2) ++ wsX80)
def wsX8_say_r1 : List Cond := [Cond.constant RX8 64 (-1000001), Cond.fieldLink RX8 25 "WrongWordModel" "now" "[I", Cond.constant RX8 85 (-1000003), Cond.methodLink RX8 190 yX8_isWord, Cond.instanceMethod yX8_isWord, Cond.selects RX8 yX8_isWord yX8_isWord, Cond.initialized RX8, Cond.code yX8_isWord cX8_isWord 2 (some .boolean), Cond.methodLink RX8 56 yX8_in, Cond.static yX8_in, Cond.code yX8_in cX8_in 3 (some .boolean), Cond.methodLink RX8 193 yX8_isHour, Cond.static yX8_isHour, Cond.code yX8_isHour cX8_isHour 1 (some .boolean), Cond.methodLink RX8 184 yX8_notes, Cond.instanceMethod yX8_notes, Cond.selects RX8 yX8_notes yX8_notes, Cond.code yX8_notes cX8_notes 2 none, Cond.fieldLink RX8 149 "WrongWordModel" "acts" "I", Cond.fieldLink RX8 34 "WrongWordModel" "past" "[I", Cond.methodLink RX8 145 yX8_copies, Cond.static yX8_copies, Cond.code yX8_copies cX8_copies 5 none, Cond.methodLink RX8 158 yX8_guardOn]
def wsX8_say_r2 : List Cond := [Cond.instanceMethod yX8_guardOn, Cond.selects RX8 yX8_guardOn yX8_guardOn, Cond.code yX8_guardOn cX8_guardOn 3 (some .int), Cond.methodLink RX8 196 yX8_isTakenNow, Cond.instanceMethod yX8_isTakenNow, Cond.selects RX8 yX8_isTakenNow yX8_isTakenNow, Cond.code yX8_isTakenNow cX8_isTakenNow 5 (some .boolean), Cond.methodLink RX8 172 yX8_secretOf, Cond.static yX8_secretOf, Cond.code yX8_secretOf cX8_secretOf 2 (some .int), Cond.methodLink RX8 176 yX8_isTaken, Cond.instanceMethod yX8_isTaken, Cond.selects RX8 yX8_isTaken yX8_isTaken, Cond.code yX8_isTaken cX8_isTaken 7 (some .boolean), Cond.methodLink RX8 161 yX8_has, Cond.static yX8_has, Cond.code yX8_has cX8_has 2 (some .boolean), Cond.methodLink RX8 165 yX8_kindIn, Cond.instanceMethod yX8_kindIn, Cond.selects RX8 yX8_kindIn yX8_kindIn, Cond.code yX8_kindIn cX8_kindIn 2 (some .int), Cond.methodLink RX8 168 yX8_takesBy, Cond.instanceMethod yX8_takesBy, Cond.selects RX8 yX8_takesBy yX8_takesBy]
def wsX8_say_r3 : List Cond := [Cond.code yX8_takesBy cX8_takesBy 5 (some .boolean), Cond.methodLink RX8 152 yX8_distance, Cond.instanceMethod yX8_distance, Cond.selects RX8 yX8_distance yX8_distance, Cond.code yX8_distance cX8_distance 5 (some .int), Cond.methodLink RX8 155 yX8_lips, Cond.instanceMethod yX8_lips, Cond.selects RX8 yX8_lips yX8_lips, Cond.code yX8_lips cX8_lips 5 (some .int)]
def wsX8_say : List Cond := .code yX8_say cX8_say 6 (some .int) :: ((wsX8_say_r1 ++ (wsX8_say_r2 ++ wsX8_say_r3)) ++ wsX80)
def wsX8_start : List Cond := .code yX8_start cX8_start 3 (some .int) :: ([.constant RX8 183 (-1000002), .constant RX8 64 (-1000001), .fieldLink RX8 25 "WrongWordModel" "now" "[I", .methodLink RX8 180 yX8_isGate, .instanceMethod yX8_isGate, .selects RX8 yX8_isGate yX8_isGate, .initialized RX8, .code yX8_isGate cX8_isGate 1 (some .boolean), .methodLink RX8 56 yX8_in, .static yX8_in, .code yX8_in cX8_in 3 (some .boolean), .methodLink RX8 184 yX8_notes, .instanceMethod yX8_notes, .selects RX8 yX8_notes yX8_notes, .code yX8_notes cX8_notes 2 none, .fieldLink RX8 149 "WrongWordModel" "acts" "I", .fieldLink RX8 34 "WrongWordModel" "past" "[I", .methodLink RX8 145 yX8_copies, .static yX8_copies, .code yX8_copies cX8_copies 5 none] ++ wsX80)
def wsX8_dismiss : List Cond := .code yX8_dismiss cX8_dismiss 3 (some .int) :: ([.constant RX8 64 (-1000001), .fieldLink RX8 25 "WrongWordModel" "now" "[I", .constant RX8 183 (-1000002), .methodLink RX8 199 yX8_isGuard, .instanceMethod yX8_isGuard, .selects RX8 yX8_isGuard yX8_isGuard, .initialized RX8, .code yX8_isGuard cX8_isGuard 2 (some .boolean), .methodLink RX8 56 yX8_in, .static yX8_in, .code yX8_in cX8_in 3 (some .boolean), .methodLink RX8 184 yX8_notes, .instanceMethod yX8_notes, .selects RX8 yX8_notes yX8_notes, .code yX8_notes cX8_notes 2 none, .fieldLink RX8 149 "WrongWordModel" "acts" "I", .fieldLink RX8 34 "WrongWordModel" "past" "[I", .methodLink RX8 145 yX8_copies, .static yX8_copies, .code yX8_copies cX8_copies 5 none] ++ wsX80)
def wsX8_undo : List Cond := .code yX8_undo cX8_undo 1 (some .int) :: ([.fieldLink RX8 149 "WrongWordModel" "acts" "I", .constant RX8 183 (-1000002), .fieldLink RX8 34 "WrongWordModel" "past" "[I", .fieldLink RX8 25 "WrongWordModel" "now" "[I", .methodLink RX8 145 yX8_copies, .static yX8_copies, .initialized RX8, .code yX8_copies cX8_copies 5 none] ++ wsX80)
def wsX8_letter : List Cond := .code yX8_letter cX8_letter 3 (some .int) :: ([.fieldLink RX8 25 "WrongWordModel" "now" "[I", .constant RX8 64 (-1000001), .methodLink RX8 190 yX8_isWord, .instanceMethod yX8_isWord, .selects RX8 yX8_isWord yX8_isWord, .initialized RX8, .code yX8_isWord cX8_isWord 2 (some .boolean), .methodLink RX8 56 yX8_in, .static yX8_in, .code yX8_in cX8_in 3 (some .boolean)] ++ wsX80)
def wsX8_like : List Cond := .code yX8_like cX8_like 4 (some .int) :: ([.constant RX8 64 (-1000001), .methodLink RX8 190 yX8_isWord, .instanceMethod yX8_isWord, .selects RX8 yX8_isWord yX8_isWord, .initialized RX8, .code yX8_isWord cX8_isWord 2 (some .boolean), .fieldLink RX8 25 "WrongWordModel" "now" "[I", .methodLink RX8 56 yX8_in, .static yX8_in, .code yX8_in cX8_in 3 (some .boolean), .methodLink RX8 152 yX8_distance, .instanceMethod yX8_distance, .selects RX8 yX8_distance yX8_distance, .code yX8_distance cX8_distance 5 (some .int), .methodLink RX8 155 yX8_lips, .instanceMethod yX8_lips, .selects RX8 yX8_lips yX8_lips, .code yX8_lips cX8_lips 5 (some .int)] ++ wsX80)
def wsX8_hoursOf : List Cond := .code yX8_hoursOf cX8_hoursOf 4 (some .int) :: ([.fieldLink RX8 25 "WrongWordModel" "now" "[I", .methodLink RX8 158 yX8_guardOn, .instanceMethod yX8_guardOn, .selects RX8 yX8_guardOn yX8_guardOn, .initialized RX8, .code yX8_guardOn cX8_guardOn 3 (some .int)] ++ wsX80)
def wsX8_guard : List Cond := .code yX8_guard cX8_guard 3 (some .int) :: ([.constant RX8 64 (-1000001), .fieldLink RX8 25 "WrongWordModel" "now" "[I", .methodLink RX8 199 yX8_isGuard, .instanceMethod yX8_isGuard, .selects RX8 yX8_isGuard yX8_isGuard, .initialized RX8, .code yX8_isGuard cX8_isGuard 2 (some .boolean), .methodLink RX8 56 yX8_in, .static yX8_in, .code yX8_in cX8_in 3 (some .boolean), .methodLink RX8 202 yX8_hoursOf, .instanceMethod yX8_hoursOf, .selects RX8 yX8_hoursOf yX8_hoursOf, .code yX8_hoursOf cX8_hoursOf 4 (some .int), .methodLink RX8 158 yX8_guardOn, .instanceMethod yX8_guardOn, .selects RX8 yX8_guardOn yX8_guardOn, .code yX8_guardOn cX8_guardOn 3 (some .int)] ++ wsX80)
def wsX8_tried : List Cond := .code yX8_tried cX8_tried 4 (some .int) :: ([.fieldLink RX8 25 "WrongWordModel" "now" "[I", .constant RX8 64 (-1000001), .constant RX8 50 (-1000000), .methodLink RX8 56 yX8_in, .static yX8_in, .initialized RX8, .code yX8_in cX8_in 3 (some .boolean)] ++ wsX80)
def wsX8_secret : List Cond := .code yX8_secret cX8_secret 2 (some .int) :: ([.constant RX8 183 (-1000002), .fieldLink RX8 25 "WrongWordModel" "now" "[I", .constant RX8 64 (-1000001), .methodLink RX8 180 yX8_isGate, .instanceMethod yX8_isGate, .selects RX8 yX8_isGate yX8_isGate, .initialized RX8, .code yX8_isGate cX8_isGate 1 (some .boolean), .methodLink RX8 205 yX8_isFar, .static yX8_isFar, .code yX8_isFar cX8_isFar 1 (some .boolean), .methodLink RX8 56 yX8_in, .static yX8_in, .code yX8_in cX8_in 3 (some .boolean), .methodLink RX8 172 yX8_secretOf, .static yX8_secretOf, .code yX8_secretOf cX8_secretOf 2 (some .int)] ++ wsX80)
def wsX8_taken_r1 : List Cond := [Cond.constant RX8 64 (-1000001), Cond.methodLink RX8 190 yX8_isWord, Cond.instanceMethod yX8_isWord, Cond.selects RX8 yX8_isWord yX8_isWord, Cond.initialized RX8, Cond.code yX8_isWord cX8_isWord 2 (some .boolean), Cond.fieldLink RX8 25 "WrongWordModel" "now" "[I", Cond.methodLink RX8 56 yX8_in, Cond.static yX8_in, Cond.code yX8_in cX8_in 3 (some .boolean), Cond.methodLink RX8 193 yX8_isHour, Cond.static yX8_isHour, Cond.code yX8_isHour cX8_isHour 1 (some .boolean), Cond.methodLink RX8 205 yX8_isFar, Cond.static yX8_isFar, Cond.code yX8_isFar cX8_isFar 1 (some .boolean), Cond.methodLink RX8 196 yX8_isTakenNow, Cond.instanceMethod yX8_isTakenNow, Cond.selects RX8 yX8_isTakenNow yX8_isTakenNow, Cond.code yX8_isTakenNow cX8_isTakenNow 5 (some .boolean), Cond.methodLink RX8 172 yX8_secretOf, Cond.static yX8_secretOf, Cond.code yX8_secretOf cX8_secretOf 2 (some .int), Cond.methodLink RX8 176 yX8_isTaken]
def wsX8_taken_r2 : List Cond := [Cond.instanceMethod yX8_isTaken, Cond.selects RX8 yX8_isTaken yX8_isTaken, Cond.code yX8_isTaken cX8_isTaken 7 (some .boolean), Cond.methodLink RX8 158 yX8_guardOn, Cond.instanceMethod yX8_guardOn, Cond.selects RX8 yX8_guardOn yX8_guardOn, Cond.code yX8_guardOn cX8_guardOn 3 (some .int), Cond.methodLink RX8 161 yX8_has, Cond.static yX8_has, Cond.code yX8_has cX8_has 2 (some .boolean), Cond.methodLink RX8 165 yX8_kindIn, Cond.instanceMethod yX8_kindIn, Cond.selects RX8 yX8_kindIn yX8_kindIn, Cond.code yX8_kindIn cX8_kindIn 2 (some .int), Cond.methodLink RX8 168 yX8_takesBy, Cond.instanceMethod yX8_takesBy, Cond.selects RX8 yX8_takesBy yX8_takesBy, Cond.code yX8_takesBy cX8_takesBy 5 (some .boolean), Cond.methodLink RX8 152 yX8_distance, Cond.instanceMethod yX8_distance, Cond.selects RX8 yX8_distance yX8_distance, Cond.code yX8_distance cX8_distance 5 (some .int), Cond.methodLink RX8 155 yX8_lips, Cond.instanceMethod yX8_lips]
def wsX8_taken_r3 : List Cond := [Cond.selects RX8 yX8_lips yX8_lips, Cond.code yX8_lips cX8_lips 5 (some .int)]
def wsX8_taken : List Cond := .code yX8_taken cX8_taken 4 (some .int) :: ((wsX8_taken_r1 ++ (wsX8_taken_r2 ++ wsX8_taken_r3)) ++ wsX80)
def wsX8_safe_r1 : List Cond := [Cond.constant RX8 183 (-1000002), Cond.constant RX8 64 (-1000001), Cond.fieldLink RX8 25 "WrongWordModel" "now" "[I", Cond.methodLink RX8 180 yX8_isGate, Cond.instanceMethod yX8_isGate, Cond.selects RX8 yX8_isGate yX8_isGate, Cond.initialized RX8, Cond.code yX8_isGate cX8_isGate 1 (some .boolean), Cond.methodLink RX8 193 yX8_isHour, Cond.static yX8_isHour, Cond.code yX8_isHour cX8_isHour 1 (some .boolean), Cond.methodLink RX8 56 yX8_in, Cond.static yX8_in, Cond.code yX8_in cX8_in 3 (some .boolean), Cond.methodLink RX8 205 yX8_isFar, Cond.static yX8_isFar, Cond.code yX8_isFar cX8_isFar 1 (some .boolean), Cond.methodLink RX8 196 yX8_isTakenNow, Cond.instanceMethod yX8_isTakenNow, Cond.selects RX8 yX8_isTakenNow yX8_isTakenNow, Cond.code yX8_isTakenNow cX8_isTakenNow 5 (some .boolean), Cond.methodLink RX8 172 yX8_secretOf, Cond.static yX8_secretOf, Cond.code yX8_secretOf cX8_secretOf 2 (some .int)]
def wsX8_safe_r2 : List Cond := [Cond.methodLink RX8 176 yX8_isTaken, Cond.instanceMethod yX8_isTaken, Cond.selects RX8 yX8_isTaken yX8_isTaken, Cond.code yX8_isTaken cX8_isTaken 7 (some .boolean), Cond.methodLink RX8 158 yX8_guardOn, Cond.instanceMethod yX8_guardOn, Cond.selects RX8 yX8_guardOn yX8_guardOn, Cond.code yX8_guardOn cX8_guardOn 3 (some .int), Cond.methodLink RX8 161 yX8_has, Cond.static yX8_has, Cond.code yX8_has cX8_has 2 (some .boolean), Cond.methodLink RX8 165 yX8_kindIn, Cond.instanceMethod yX8_kindIn, Cond.selects RX8 yX8_kindIn yX8_kindIn, Cond.code yX8_kindIn cX8_kindIn 2 (some .int), Cond.methodLink RX8 168 yX8_takesBy, Cond.instanceMethod yX8_takesBy, Cond.selects RX8 yX8_takesBy yX8_takesBy, Cond.code yX8_takesBy cX8_takesBy 5 (some .boolean), Cond.methodLink RX8 152 yX8_distance, Cond.instanceMethod yX8_distance, Cond.selects RX8 yX8_distance yX8_distance, Cond.code yX8_distance cX8_distance 5 (some .int), Cond.methodLink RX8 155 yX8_lips]
def wsX8_safe_r3 : List Cond := [Cond.instanceMethod yX8_lips, Cond.selects RX8 yX8_lips yX8_lips, Cond.code yX8_lips cX8_lips 5 (some .int)]
def wsX8_safe : List Cond := .code yX8_safe cX8_safe 5 (some .int) :: ((wsX8_safe_r1 ++ (wsX8_safe_r2 ++ wsX8_safe_r3)) ++ wsX80)
def wsX8_areIn_r1 : List Cond := [Cond.fieldLink RX8 25 "WrongWordModel" "now" "[I", Cond.methodLink RX8 161 yX8_has, Cond.static yX8_has, Cond.initialized RX8, Cond.code yX8_has cX8_has 2 (some .boolean), Cond.methodLink RX8 172 yX8_secretOf, Cond.static yX8_secretOf, Cond.code yX8_secretOf cX8_secretOf 2 (some .int), Cond.methodLink RX8 176 yX8_isTaken, Cond.instanceMethod yX8_isTaken, Cond.selects RX8 yX8_isTaken yX8_isTaken, Cond.code yX8_isTaken cX8_isTaken 7 (some .boolean), Cond.methodLink RX8 158 yX8_guardOn, Cond.instanceMethod yX8_guardOn, Cond.selects RX8 yX8_guardOn yX8_guardOn, Cond.code yX8_guardOn cX8_guardOn 3 (some .int), Cond.methodLink RX8 165 yX8_kindIn, Cond.instanceMethod yX8_kindIn, Cond.selects RX8 yX8_kindIn yX8_kindIn, Cond.code yX8_kindIn cX8_kindIn 2 (some .int), Cond.methodLink RX8 168 yX8_takesBy, Cond.instanceMethod yX8_takesBy, Cond.selects RX8 yX8_takesBy yX8_takesBy, Cond.code yX8_takesBy cX8_takesBy 5 (some .boolean)]
def wsX8_areIn_r2 : List Cond := [Cond.methodLink RX8 152 yX8_distance, Cond.instanceMethod yX8_distance, Cond.selects RX8 yX8_distance yX8_distance, Cond.code yX8_distance cX8_distance 5 (some .int), Cond.methodLink RX8 155 yX8_lips, Cond.instanceMethod yX8_lips, Cond.selects RX8 yX8_lips yX8_lips, Cond.code yX8_lips cX8_lips 5 (some .int)]
def wsX8_areIn : List Cond := .code yX8_areIn cX8_areIn 8 (some .boolean) :: ((wsX8_areIn_r1 ++ wsX8_areIn_r2) ++ wsX80)
def wsX8_open_r1 : List Cond := [Cond.constant RX8 183 (-1000002), Cond.constant RX8 64 (-1000001), Cond.fieldLink RX8 25 "WrongWordModel" "now" "[I", Cond.methodLink RX8 180 yX8_isGate, Cond.instanceMethod yX8_isGate, Cond.selects RX8 yX8_isGate yX8_isGate, Cond.initialized RX8, Cond.code yX8_isGate cX8_isGate 1 (some .boolean), Cond.methodLink RX8 208 yX8_areWords, Cond.instanceMethod yX8_areWords, Cond.selects RX8 yX8_areWords yX8_areWords, Cond.code yX8_areWords cX8_areWords 2 (some .boolean), Cond.methodLink RX8 56 yX8_in, Cond.static yX8_in, Cond.code yX8_in cX8_in 3 (some .boolean), Cond.methodLink RX8 205 yX8_isFar, Cond.static yX8_isFar, Cond.code yX8_isFar cX8_isFar 1 (some .boolean), Cond.methodLink RX8 211 yX8_areIn, Cond.instanceMethod yX8_areIn, Cond.selects RX8 yX8_areIn yX8_areIn, Cond.code yX8_areIn cX8_areIn 8 (some .boolean), Cond.methodLink RX8 161 yX8_has, Cond.static yX8_has]
def wsX8_open_r2 : List Cond := [Cond.code yX8_has cX8_has 2 (some .boolean), Cond.methodLink RX8 172 yX8_secretOf, Cond.static yX8_secretOf, Cond.code yX8_secretOf cX8_secretOf 2 (some .int), Cond.methodLink RX8 176 yX8_isTaken, Cond.instanceMethod yX8_isTaken, Cond.selects RX8 yX8_isTaken yX8_isTaken, Cond.code yX8_isTaken cX8_isTaken 7 (some .boolean), Cond.methodLink RX8 158 yX8_guardOn, Cond.instanceMethod yX8_guardOn, Cond.selects RX8 yX8_guardOn yX8_guardOn, Cond.code yX8_guardOn cX8_guardOn 3 (some .int), Cond.methodLink RX8 165 yX8_kindIn, Cond.instanceMethod yX8_kindIn, Cond.selects RX8 yX8_kindIn yX8_kindIn, Cond.code yX8_kindIn cX8_kindIn 2 (some .int), Cond.methodLink RX8 168 yX8_takesBy, Cond.instanceMethod yX8_takesBy, Cond.selects RX8 yX8_takesBy yX8_takesBy, Cond.code yX8_takesBy cX8_takesBy 5 (some .boolean), Cond.methodLink RX8 152 yX8_distance, Cond.instanceMethod yX8_distance, Cond.selects RX8 yX8_distance yX8_distance, Cond.code yX8_distance cX8_distance 5 (some .int)]
def wsX8_open_r3 : List Cond := [Cond.methodLink RX8 155 yX8_lips, Cond.instanceMethod yX8_lips, Cond.selects RX8 yX8_lips yX8_lips, Cond.code yX8_lips cX8_lips 5 (some .int)]
def wsX8_open : List Cond := .code yX8_open cX8_open 5 (some .int) :: ((wsX8_open_r1 ++ (wsX8_open_r2 ++ wsX8_open_r3)) ++ wsX80)
def wsX8_next : List Cond := .code yX8_next cX8_next 3 (some .int) :: ([.constant RX8 64 (-1000001), .fieldLink RX8 25 "WrongWordModel" "now" "[I", .constant RX8 50 (-1000000), .methodLink RX8 190 yX8_isWord, .instanceMethod yX8_isWord, .selects RX8 yX8_isWord yX8_isWord, .initialized RX8, .code yX8_isWord cX8_isWord 2 (some .boolean), .methodLink RX8 56 yX8_in, .static yX8_in, .code yX8_in cX8_in 3 (some .boolean), .methodLink RX8 172 yX8_secretOf, .static yX8_secretOf, .code yX8_secretOf cX8_secretOf 2 (some .int)] ++ wsX80)
def wsX8_agreeing : List Cond := .code yX8_agreeing cX8_agreeing 6 (some .int) :: ([.fieldLink RX8 25 "WrongWordModel" "now" "[I", .methodLink RX8 165 yX8_kindIn, .instanceMethod yX8_kindIn, .selects RX8 yX8_kindIn yX8_kindIn, .initialized RX8, .code yX8_kindIn cX8_kindIn 2 (some .int), .methodLink RX8 168 yX8_takesBy, .instanceMethod yX8_takesBy, .selects RX8 yX8_takesBy yX8_takesBy, .code yX8_takesBy cX8_takesBy 5 (some .boolean), .methodLink RX8 152 yX8_distance, .instanceMethod yX8_distance, .selects RX8 yX8_distance yX8_distance, .code yX8_distance cX8_distance 5 (some .int), .methodLink RX8 155 yX8_lips, .instanceMethod yX8_lips, .selects RX8 yX8_lips yX8_lips, .code yX8_lips cX8_lips 5 (some .int)] ++ wsX80)
def wsX8_agree_r1 : List Cond := [Cond.constant RX8 183 (-1000002), Cond.methodLink RX8 180 yX8_isGate, Cond.instanceMethod yX8_isGate, Cond.selects RX8 yX8_isGate yX8_isGate, Cond.initialized RX8, Cond.code yX8_isGate cX8_isGate 1 (some .boolean), Cond.fieldLink RX8 25 "WrongWordModel" "now" "[I", Cond.methodLink RX8 214 yX8_agreeing, Cond.instanceMethod yX8_agreeing, Cond.selects RX8 yX8_agreeing yX8_agreeing, Cond.code yX8_agreeing cX8_agreeing 6 (some .int), Cond.methodLink RX8 165 yX8_kindIn, Cond.instanceMethod yX8_kindIn, Cond.selects RX8 yX8_kindIn yX8_kindIn, Cond.code yX8_kindIn cX8_kindIn 2 (some .int), Cond.methodLink RX8 168 yX8_takesBy, Cond.instanceMethod yX8_takesBy, Cond.selects RX8 yX8_takesBy yX8_takesBy, Cond.code yX8_takesBy cX8_takesBy 5 (some .boolean), Cond.methodLink RX8 152 yX8_distance, Cond.instanceMethod yX8_distance, Cond.selects RX8 yX8_distance yX8_distance, Cond.code yX8_distance cX8_distance 5 (some .int), Cond.methodLink RX8 155 yX8_lips]
def wsX8_agree_r2 : List Cond := [Cond.instanceMethod yX8_lips, Cond.selects RX8 yX8_lips yX8_lips, Cond.code yX8_lips cX8_lips 5 (some .int)]
def wsX8_agree : List Cond := .code yX8_agree cX8_agree 1 (some .int) :: ((wsX8_agree_r1 ++ wsX8_agree_r2) ++ wsX80)
def wsX8_takenOf_r1 : List Cond := [Cond.fieldLink RX8 25 "WrongWordModel" "now" "[I", Cond.methodLink RX8 161 yX8_has, Cond.static yX8_has, Cond.initialized RX8, Cond.code yX8_has cX8_has 2 (some .boolean), Cond.methodLink RX8 176 yX8_isTaken, Cond.instanceMethod yX8_isTaken, Cond.selects RX8 yX8_isTaken yX8_isTaken, Cond.code yX8_isTaken cX8_isTaken 7 (some .boolean), Cond.methodLink RX8 158 yX8_guardOn, Cond.instanceMethod yX8_guardOn, Cond.selects RX8 yX8_guardOn yX8_guardOn, Cond.code yX8_guardOn cX8_guardOn 3 (some .int), Cond.methodLink RX8 165 yX8_kindIn, Cond.instanceMethod yX8_kindIn, Cond.selects RX8 yX8_kindIn yX8_kindIn, Cond.code yX8_kindIn cX8_kindIn 2 (some .int), Cond.methodLink RX8 168 yX8_takesBy, Cond.instanceMethod yX8_takesBy, Cond.selects RX8 yX8_takesBy yX8_takesBy, Cond.code yX8_takesBy cX8_takesBy 5 (some .boolean), Cond.methodLink RX8 152 yX8_distance, Cond.instanceMethod yX8_distance, Cond.selects RX8 yX8_distance yX8_distance]
def wsX8_takenOf_r2 : List Cond := [Cond.code yX8_distance cX8_distance 5 (some .int), Cond.methodLink RX8 155 yX8_lips, Cond.instanceMethod yX8_lips, Cond.selects RX8 yX8_lips yX8_lips, Cond.code yX8_lips cX8_lips 5 (some .int)]
def wsX8_takenOf : List Cond := .code yX8_takenOf cX8_takenOf 6 (some .int) :: ((wsX8_takenOf_r1 ++ wsX8_takenOf_r2) ++ wsX80)
def wsX8_man_r1 : List Cond := [Cond.constant RX8 183 (-1000002), Cond.constant RX8 64 (-1000001), Cond.fieldLink RX8 25 "WrongWordModel" "now" "[I", Cond.methodLink RX8 180 yX8_isGate, Cond.instanceMethod yX8_isGate, Cond.selects RX8 yX8_isGate yX8_isGate, Cond.initialized RX8, Cond.code yX8_isGate cX8_isGate 1 (some .boolean), Cond.methodLink RX8 56 yX8_in, Cond.static yX8_in, Cond.code yX8_in cX8_in 3 (some .boolean), Cond.methodLink RX8 214 yX8_agreeing, Cond.instanceMethod yX8_agreeing, Cond.selects RX8 yX8_agreeing yX8_agreeing, Cond.code yX8_agreeing cX8_agreeing 6 (some .int), Cond.methodLink RX8 165 yX8_kindIn, Cond.instanceMethod yX8_kindIn, Cond.selects RX8 yX8_kindIn yX8_kindIn, Cond.code yX8_kindIn cX8_kindIn 2 (some .int), Cond.methodLink RX8 168 yX8_takesBy, Cond.instanceMethod yX8_takesBy, Cond.selects RX8 yX8_takesBy yX8_takesBy, Cond.code yX8_takesBy cX8_takesBy 5 (some .boolean), Cond.methodLink RX8 152 yX8_distance]
def wsX8_man_r2 : List Cond := [Cond.instanceMethod yX8_distance, Cond.selects RX8 yX8_distance yX8_distance, Cond.code yX8_distance cX8_distance 5 (some .int), Cond.methodLink RX8 155 yX8_lips, Cond.instanceMethod yX8_lips, Cond.selects RX8 yX8_lips yX8_lips, Cond.code yX8_lips cX8_lips 5 (some .int), Cond.methodLink RX8 217 yX8_ones, Cond.static yX8_ones, Cond.code yX8_ones cX8_ones 3 (some .int), Cond.methodLink RX8 220 yX8_takenOf, Cond.instanceMethod yX8_takenOf, Cond.selects RX8 yX8_takenOf yX8_takenOf, Cond.code yX8_takenOf cX8_takenOf 6 (some .int), Cond.methodLink RX8 161 yX8_has, Cond.static yX8_has, Cond.code yX8_has cX8_has 2 (some .boolean), Cond.methodLink RX8 176 yX8_isTaken, Cond.instanceMethod yX8_isTaken, Cond.selects RX8 yX8_isTaken yX8_isTaken, Cond.code yX8_isTaken cX8_isTaken 7 (some .boolean), Cond.methodLink RX8 158 yX8_guardOn, Cond.instanceMethod yX8_guardOn, Cond.selects RX8 yX8_guardOn yX8_guardOn]
def wsX8_man_r3 : List Cond := [Cond.code yX8_guardOn cX8_guardOn 3 (some .int)]
def wsX8_man : List Cond := .code yX8_man cX8_man 11 (some .int) :: ((wsX8_man_r1 ++ (wsX8_man_r2 ++ wsX8_man_r3)) ++ wsX80)
def wsX8_menFor_r1 : List Cond := [Cond.constant RX8 50 (-1000000), Cond.fieldLink RX8 25 "WrongWordModel" "now" "[I", Cond.fieldLink RX8 44 "WrongWordModel" "men" "[I", Cond.methodLink RX8 217 yX8_ones, Cond.static yX8_ones, Cond.initialized RX8, Cond.code yX8_ones cX8_ones 3 (some .int), Cond.methodLink RX8 220 yX8_takenOf, Cond.instanceMethod yX8_takenOf, Cond.selects RX8 yX8_takenOf yX8_takenOf, Cond.code yX8_takenOf cX8_takenOf 6 (some .int), Cond.methodLink RX8 161 yX8_has, Cond.static yX8_has, Cond.code yX8_has cX8_has 2 (some .boolean), Cond.methodLink RX8 176 yX8_isTaken, Cond.instanceMethod yX8_isTaken, Cond.selects RX8 yX8_isTaken yX8_isTaken, Cond.code yX8_isTaken cX8_isTaken 7 (some .boolean), Cond.methodLink RX8 158 yX8_guardOn, Cond.instanceMethod yX8_guardOn, Cond.selects RX8 yX8_guardOn yX8_guardOn, Cond.code yX8_guardOn cX8_guardOn 3 (some .int), Cond.methodLink RX8 165 yX8_kindIn, Cond.instanceMethod yX8_kindIn]
def wsX8_menFor_r2 : List Cond := [Cond.selects RX8 yX8_kindIn yX8_kindIn, Cond.code yX8_kindIn cX8_kindIn 2 (some .int), Cond.methodLink RX8 168 yX8_takesBy, Cond.instanceMethod yX8_takesBy, Cond.selects RX8 yX8_takesBy yX8_takesBy, Cond.code yX8_takesBy cX8_takesBy 5 (some .boolean), Cond.methodLink RX8 152 yX8_distance, Cond.instanceMethod yX8_distance, Cond.selects RX8 yX8_distance yX8_distance, Cond.code yX8_distance cX8_distance 5 (some .int), Cond.methodLink RX8 155 yX8_lips, Cond.instanceMethod yX8_lips, Cond.selects RX8 yX8_lips yX8_lips, Cond.code yX8_lips cX8_lips 5 (some .int)]
def wsX8_menFor : List Cond := .code yX8_menFor cX8_menFor 8 (some .int) :: ((wsX8_menFor_r1 ++ wsX8_menFor_r2) ++ wsX80)
def wsX8_fewest_r1 : List Cond := [Cond.constant RX8 183 (-1000002), Cond.fieldLink RX8 44 "WrongWordModel" "men" "[I", Cond.methodLink RX8 180 yX8_isGate, Cond.instanceMethod yX8_isGate, Cond.selects RX8 yX8_isGate yX8_isGate, Cond.initialized RX8, Cond.code yX8_isGate cX8_isGate 1 (some .boolean), Cond.fieldLink RX8 25 "WrongWordModel" "now" "[I", Cond.methodLink RX8 214 yX8_agreeing, Cond.instanceMethod yX8_agreeing, Cond.selects RX8 yX8_agreeing yX8_agreeing, Cond.code yX8_agreeing cX8_agreeing 6 (some .int), Cond.methodLink RX8 165 yX8_kindIn, Cond.instanceMethod yX8_kindIn, Cond.selects RX8 yX8_kindIn yX8_kindIn, Cond.code yX8_kindIn cX8_kindIn 2 (some .int), Cond.methodLink RX8 168 yX8_takesBy, Cond.instanceMethod yX8_takesBy, Cond.selects RX8 yX8_takesBy yX8_takesBy, Cond.code yX8_takesBy cX8_takesBy 5 (some .boolean), Cond.methodLink RX8 152 yX8_distance, Cond.instanceMethod yX8_distance, Cond.selects RX8 yX8_distance yX8_distance, Cond.code yX8_distance cX8_distance 5 (some .int)]
def wsX8_fewest_r2 : List Cond := [Cond.methodLink RX8 155 yX8_lips, Cond.instanceMethod yX8_lips, Cond.selects RX8 yX8_lips yX8_lips, Cond.code yX8_lips cX8_lips 5 (some .int), Cond.methodLink RX8 224 yX8_menFor, Cond.instanceMethod yX8_menFor, Cond.selects RX8 yX8_menFor yX8_menFor, Cond.code yX8_menFor cX8_menFor 8 (some .int), Cond.constant RX8 50 (-1000000), Cond.methodLink RX8 217 yX8_ones, Cond.static yX8_ones, Cond.code yX8_ones cX8_ones 3 (some .int), Cond.methodLink RX8 220 yX8_takenOf, Cond.instanceMethod yX8_takenOf, Cond.selects RX8 yX8_takenOf yX8_takenOf, Cond.code yX8_takenOf cX8_takenOf 6 (some .int), Cond.methodLink RX8 161 yX8_has, Cond.static yX8_has, Cond.code yX8_has cX8_has 2 (some .boolean), Cond.methodLink RX8 176 yX8_isTaken, Cond.instanceMethod yX8_isTaken, Cond.selects RX8 yX8_isTaken yX8_isTaken, Cond.code yX8_isTaken cX8_isTaken 7 (some .boolean), Cond.methodLink RX8 158 yX8_guardOn]
def wsX8_fewest_r3 : List Cond := [Cond.instanceMethod yX8_guardOn, Cond.selects RX8 yX8_guardOn yX8_guardOn, Cond.code yX8_guardOn cX8_guardOn 3 (some .int)]
def wsX8_fewest : List Cond := .code yX8_fewest cX8_fewest 3 (some .int) :: ((wsX8_fewest_r1 ++ (wsX8_fewest_r2 ++ wsX8_fewest_r3)) ++ wsX80)
def wsX8_march_r1 : List Cond := [Cond.constant RX8 183 (-1000002), Cond.constant RX8 64 (-1000001), Cond.constant RX8 50 (-1000000), Cond.fieldLink RX8 16 "WrongWordModel" "items" "[I", Cond.methodLink RX8 180 yX8_isGate, Cond.instanceMethod yX8_isGate, Cond.selects RX8 yX8_isGate yX8_isGate, Cond.initialized RX8, Cond.code yX8_isGate cX8_isGate 1 (some .boolean), Cond.fieldLink RX8 25 "WrongWordModel" "now" "[I", Cond.methodLink RX8 60 yX8_isRow, Cond.static yX8_isRow, Cond.code yX8_isRow cX8_isRow 1 (some .boolean), Cond.methodLink RX8 56 yX8_in, Cond.static yX8_in, Cond.code yX8_in cX8_in 3 (some .boolean), Cond.methodLink RX8 72 yX8_isMissing, Cond.instanceMethod yX8_isMissing, Cond.selects RX8 yX8_isMissing yX8_isMissing, Cond.code yX8_isMissing cX8_isMissing 2 (some .boolean), Cond.fieldLink RX8 7 "WrongWordModel" "lane" "[I", Cond.methodLink RX8 65 yX8_found, Cond.instanceMethod yX8_found, Cond.selects RX8 yX8_found yX8_found]
def wsX8_march_r2 : List Cond := [Cond.code yX8_found cX8_found 2 (some .int), Cond.fieldLink RX8 51 "WrongWordModel" "status" "I", Cond.constant RX8 55 (-1000010), Cond.methodLink RX8 79 yX8_isPart, Cond.instanceMethod yX8_isPart, Cond.selects RX8 yX8_isPart yX8_isPart, Cond.code yX8_isPart cX8_isPart 4 (some .boolean), Cond.fieldLink RX8 13 "WrongWordModel" "many" "[I", Cond.methodLink RX8 190 yX8_isWord, Cond.instanceMethod yX8_isWord, Cond.selects RX8 yX8_isWord yX8_isWord, Cond.code yX8_isWord cX8_isWord 2 (some .boolean), Cond.methodLink RX8 196 yX8_isTakenNow, Cond.instanceMethod yX8_isTakenNow, Cond.selects RX8 yX8_isTakenNow yX8_isTakenNow, Cond.code yX8_isTakenNow cX8_isTakenNow 5 (some .boolean), Cond.methodLink RX8 172 yX8_secretOf, Cond.static yX8_secretOf, Cond.code yX8_secretOf cX8_secretOf 2 (some .int), Cond.methodLink RX8 176 yX8_isTaken, Cond.instanceMethod yX8_isTaken, Cond.selects RX8 yX8_isTaken yX8_isTaken, Cond.code yX8_isTaken cX8_isTaken 7 (some .boolean), Cond.methodLink RX8 158 yX8_guardOn]
def wsX8_march_r3 : List Cond := [Cond.instanceMethod yX8_guardOn, Cond.selects RX8 yX8_guardOn yX8_guardOn, Cond.code yX8_guardOn cX8_guardOn 3 (some .int), Cond.methodLink RX8 161 yX8_has, Cond.static yX8_has, Cond.code yX8_has cX8_has 2 (some .boolean), Cond.methodLink RX8 165 yX8_kindIn, Cond.instanceMethod yX8_kindIn, Cond.selects RX8 yX8_kindIn yX8_kindIn, Cond.code yX8_kindIn cX8_kindIn 2 (some .int), Cond.methodLink RX8 168 yX8_takesBy, Cond.instanceMethod yX8_takesBy, Cond.selects RX8 yX8_takesBy yX8_takesBy, Cond.code yX8_takesBy cX8_takesBy 5 (some .boolean), Cond.methodLink RX8 152 yX8_distance, Cond.instanceMethod yX8_distance, Cond.selects RX8 yX8_distance yX8_distance, Cond.code yX8_distance cX8_distance 5 (some .int), Cond.methodLink RX8 155 yX8_lips, Cond.instanceMethod yX8_lips, Cond.selects RX8 yX8_lips yX8_lips, Cond.code yX8_lips cX8_lips 5 (some .int), Cond.methodLink RX8 69 yX8_well, Cond.instanceMethod yX8_well]
def wsX8_march_r4 : List Cond := [Cond.selects RX8 yX8_well yX8_well, Cond.code yX8_well cX8_well 2 (some .int)]
def wsX8_march : List Cond := .code yX8_march cX8_march 9 (some .int) :: ((wsX8_march_r1 ++ (wsX8_march_r2 ++ (wsX8_march_r3 ++ wsX8_march_r4))) ++ wsX80)
def wsX8_cheap_r1 : List Cond := [Cond.constant RX8 183 (-1000002), Cond.constant RX8 64 (-1000001), Cond.constant RX8 50 (-1000000), Cond.fieldLink RX8 25 "WrongWordModel" "now" "[I", Cond.methodLink RX8 180 yX8_isGate, Cond.instanceMethod yX8_isGate, Cond.selects RX8 yX8_isGate yX8_isGate, Cond.initialized RX8, Cond.code yX8_isGate cX8_isGate 1 (some .boolean), Cond.methodLink RX8 208 yX8_areWords, Cond.instanceMethod yX8_areWords, Cond.selects RX8 yX8_areWords yX8_areWords, Cond.code yX8_areWords cX8_areWords 2 (some .boolean), Cond.methodLink RX8 56 yX8_in, Cond.static yX8_in, Cond.code yX8_in cX8_in 3 (some .boolean), Cond.methodLink RX8 205 yX8_isFar, Cond.static yX8_isFar, Cond.code yX8_isFar cX8_isFar 1 (some .boolean), Cond.methodLink RX8 161 yX8_has, Cond.static yX8_has, Cond.code yX8_has cX8_has 2 (some .boolean), Cond.methodLink RX8 211 yX8_areIn, Cond.instanceMethod yX8_areIn]
def wsX8_cheap_r2 : List Cond := [Cond.selects RX8 yX8_areIn yX8_areIn, Cond.code yX8_areIn cX8_areIn 8 (some .boolean), Cond.methodLink RX8 172 yX8_secretOf, Cond.static yX8_secretOf, Cond.code yX8_secretOf cX8_secretOf 2 (some .int), Cond.methodLink RX8 176 yX8_isTaken, Cond.instanceMethod yX8_isTaken, Cond.selects RX8 yX8_isTaken yX8_isTaken, Cond.code yX8_isTaken cX8_isTaken 7 (some .boolean), Cond.methodLink RX8 158 yX8_guardOn, Cond.instanceMethod yX8_guardOn, Cond.selects RX8 yX8_guardOn yX8_guardOn, Cond.code yX8_guardOn cX8_guardOn 3 (some .int), Cond.methodLink RX8 165 yX8_kindIn, Cond.instanceMethod yX8_kindIn, Cond.selects RX8 yX8_kindIn yX8_kindIn, Cond.code yX8_kindIn cX8_kindIn 2 (some .int), Cond.methodLink RX8 168 yX8_takesBy, Cond.instanceMethod yX8_takesBy, Cond.selects RX8 yX8_takesBy yX8_takesBy, Cond.code yX8_takesBy cX8_takesBy 5 (some .boolean), Cond.methodLink RX8 152 yX8_distance, Cond.instanceMethod yX8_distance, Cond.selects RX8 yX8_distance yX8_distance]
def wsX8_cheap_r3 : List Cond := [Cond.code yX8_distance cX8_distance 5 (some .int), Cond.methodLink RX8 155 yX8_lips, Cond.instanceMethod yX8_lips, Cond.selects RX8 yX8_lips yX8_lips, Cond.code yX8_lips cX8_lips 5 (some .int), Cond.methodLink RX8 217 yX8_ones, Cond.static yX8_ones, Cond.code yX8_ones cX8_ones 3 (some .int)]
def wsX8_cheap : List Cond := .code yX8_cheap cX8_cheap 10 (some .int) :: ((wsX8_cheap_r1 ++ (wsX8_cheap_r2 ++ wsX8_cheap_r3)) ++ wsX80)
def wsX8_near : List Cond := .code yX8_near cX8_near 5 (some .int) :: ([.constant RX8 64 (-1000001), .constant RX8 50 (-1000000), .fieldLink RX8 25 "WrongWordModel" "now" "[I", .methodLink RX8 190 yX8_isWord, .instanceMethod yX8_isWord, .selects RX8 yX8_isWord yX8_isWord, .initialized RX8, .code yX8_isWord cX8_isWord 2 (some .boolean), .methodLink RX8 56 yX8_in, .static yX8_in, .code yX8_in cX8_in 3 (some .boolean), .methodLink RX8 152 yX8_distance, .instanceMethod yX8_distance, .selects RX8 yX8_distance yX8_distance, .code yX8_distance cX8_distance 5 (some .int)] ++ wsX80)
def wsX8_rules_r1 : List Cond := [Cond.constant RX8 183 (-1000002), Cond.constant RX8 64 (-1000001), Cond.fieldLink RX8 25 "WrongWordModel" "now" "[I", Cond.fieldLink RX8 31 "WrongWordModel" "tried" "[I", Cond.fieldLink RX8 16 "WrongWordModel" "items" "[I", Cond.methodLink RX8 180 yX8_isGate, Cond.instanceMethod yX8_isGate, Cond.selects RX8 yX8_isGate yX8_isGate, Cond.initialized RX8, Cond.code yX8_isGate cX8_isGate 1 (some .boolean), Cond.methodLink RX8 60 yX8_isRow, Cond.static yX8_isRow, Cond.code yX8_isRow cX8_isRow 1 (some .boolean), Cond.methodLink RX8 56 yX8_in, Cond.static yX8_in, Cond.code yX8_in cX8_in 3 (some .boolean), Cond.methodLink RX8 72 yX8_isMissing, Cond.instanceMethod yX8_isMissing, Cond.selects RX8 yX8_isMissing yX8_isMissing, Cond.code yX8_isMissing cX8_isMissing 2 (some .boolean), Cond.fieldLink RX8 7 "WrongWordModel" "lane" "[I", Cond.constant RX8 50 (-1000000), Cond.methodLink RX8 65 yX8_found, Cond.instanceMethod yX8_found]
def wsX8_rules_r2 : List Cond := [Cond.selects RX8 yX8_found yX8_found, Cond.code yX8_found cX8_found 2 (some .int), Cond.fieldLink RX8 51 "WrongWordModel" "status" "I", Cond.constant RX8 55 (-1000010), Cond.methodLink RX8 79 yX8_isPart, Cond.instanceMethod yX8_isPart, Cond.selects RX8 yX8_isPart yX8_isPart, Cond.code yX8_isPart cX8_isPart 4 (some .boolean), Cond.fieldLink RX8 13 "WrongWordModel" "many" "[I", Cond.methodLink RX8 145 yX8_copies, Cond.static yX8_copies, Cond.code yX8_copies cX8_copies 5 none, Cond.methodLink RX8 172 yX8_secretOf, Cond.static yX8_secretOf, Cond.code yX8_secretOf cX8_secretOf 2 (some .int), Cond.methodLink RX8 69 yX8_well, Cond.instanceMethod yX8_well, Cond.selects RX8 yX8_well yX8_well, Cond.code yX8_well cX8_well 2 (some .int)]
def wsX8_rules : List Cond := .code yX8_rules cX8_rules 9 (some .int) :: ((wsX8_rules_r1 ++ wsX8_rules_r2) ++ wsX80)
def wsX8_takesSo : List Cond := .code yX8_takesSo cX8_takesSo 6 (some .boolean) :: ([.fieldLink RX8 25 "WrongWordModel" "now" "[I", .fieldLink RX8 16 "WrongWordModel" "items" "[I", .methodLink RX8 168 yX8_takesBy, .instanceMethod yX8_takesBy, .selects RX8 yX8_takesBy yX8_takesBy, .initialized RX8, .code yX8_takesBy cX8_takesBy 5 (some .boolean), .methodLink RX8 152 yX8_distance, .instanceMethod yX8_distance, .selects RX8 yX8_distance yX8_distance, .code yX8_distance cX8_distance 5 (some .int), .methodLink RX8 155 yX8_lips, .instanceMethod yX8_lips, .selects RX8 yX8_lips yX8_lips, .code yX8_lips cX8_lips 5 (some .int)] ++ wsX80)
def wsX8_fits_r1 : List Cond := [Cond.constant RX8 64 (-1000001), Cond.fieldLink RX8 25 "WrongWordModel" "now" "[I", Cond.methodLink RX8 199 yX8_isGuard, Cond.instanceMethod yX8_isGuard, Cond.selects RX8 yX8_isGuard yX8_isGuard, Cond.initialized RX8, Cond.code yX8_isGuard cX8_isGuard 2 (some .boolean), Cond.methodLink RX8 56 yX8_in, Cond.static yX8_in, Cond.code yX8_in cX8_in 3 (some .boolean), Cond.methodLink RX8 60 yX8_isRow, Cond.static yX8_isRow, Cond.code yX8_isRow cX8_isRow 1 (some .boolean), Cond.methodLink RX8 72 yX8_isMissing, Cond.instanceMethod yX8_isMissing, Cond.selects RX8 yX8_isMissing yX8_isMissing, Cond.code yX8_isMissing cX8_isMissing 2 (some .boolean), Cond.fieldLink RX8 7 "WrongWordModel" "lane" "[I", Cond.constant RX8 50 (-1000000), Cond.methodLink RX8 65 yX8_found, Cond.instanceMethod yX8_found, Cond.selects RX8 yX8_found yX8_found, Cond.code yX8_found cX8_found 2 (some .int), Cond.fieldLink RX8 51 "WrongWordModel" "status" "I"]
def wsX8_fits_r2 : List Cond := [Cond.constant RX8 55 (-1000010), Cond.methodLink RX8 79 yX8_isPart, Cond.instanceMethod yX8_isPart, Cond.selects RX8 yX8_isPart yX8_isPart, Cond.code yX8_isPart cX8_isPart 4 (some .boolean), Cond.fieldLink RX8 13 "WrongWordModel" "many" "[I", Cond.methodLink RX8 172 yX8_secretOf, Cond.static yX8_secretOf, Cond.code yX8_secretOf cX8_secretOf 2 (some .int), Cond.methodLink RX8 227 yX8_takesSo, Cond.instanceMethod yX8_takesSo, Cond.selects RX8 yX8_takesSo yX8_takesSo, Cond.code yX8_takesSo cX8_takesSo 6 (some .boolean), Cond.fieldLink RX8 16 "WrongWordModel" "items" "[I", Cond.methodLink RX8 168 yX8_takesBy, Cond.instanceMethod yX8_takesBy, Cond.selects RX8 yX8_takesBy yX8_takesBy, Cond.code yX8_takesBy cX8_takesBy 5 (some .boolean), Cond.methodLink RX8 152 yX8_distance, Cond.instanceMethod yX8_distance, Cond.selects RX8 yX8_distance yX8_distance, Cond.code yX8_distance cX8_distance 5 (some .int), Cond.methodLink RX8 155 yX8_lips, Cond.instanceMethod yX8_lips]
def wsX8_fits_r3 : List Cond := [Cond.selects RX8 yX8_lips yX8_lips, Cond.code yX8_lips cX8_lips 5 (some .int), Cond.methodLink RX8 165 yX8_kindIn, Cond.instanceMethod yX8_kindIn, Cond.selects RX8 yX8_kindIn yX8_kindIn, Cond.code yX8_kindIn cX8_kindIn 2 (some .int), Cond.methodLink RX8 69 yX8_well, Cond.instanceMethod yX8_well, Cond.selects RX8 yX8_well yX8_well, Cond.code yX8_well cX8_well 2 (some .int)]
def wsX8_fits : List Cond := .code yX8_fits cX8_fits 8 (some .int) :: ((wsX8_fits_r1 ++ (wsX8_fits_r2 ++ wsX8_fits_r3)) ++ wsX80)
def wsX8_sure_r1 : List Cond := [Cond.constant RX8 64 (-1000001), Cond.methodLink RX8 190 yX8_isWord, Cond.instanceMethod yX8_isWord, Cond.selects RX8 yX8_isWord yX8_isWord, Cond.initialized RX8, Cond.code yX8_isWord cX8_isWord 2 (some .boolean), Cond.fieldLink RX8 25 "WrongWordModel" "now" "[I", Cond.methodLink RX8 56 yX8_in, Cond.static yX8_in, Cond.code yX8_in cX8_in 3 (some .boolean), Cond.methodLink RX8 193 yX8_isHour, Cond.static yX8_isHour, Cond.code yX8_isHour cX8_isHour 1 (some .boolean), Cond.methodLink RX8 214 yX8_agreeing, Cond.instanceMethod yX8_agreeing, Cond.selects RX8 yX8_agreeing yX8_agreeing, Cond.code yX8_agreeing cX8_agreeing 6 (some .int), Cond.methodLink RX8 165 yX8_kindIn, Cond.instanceMethod yX8_kindIn, Cond.selects RX8 yX8_kindIn yX8_kindIn, Cond.code yX8_kindIn cX8_kindIn 2 (some .int), Cond.methodLink RX8 168 yX8_takesBy, Cond.instanceMethod yX8_takesBy, Cond.selects RX8 yX8_takesBy yX8_takesBy]
def wsX8_sure_r2 : List Cond := [Cond.code yX8_takesBy cX8_takesBy 5 (some .boolean), Cond.methodLink RX8 152 yX8_distance, Cond.instanceMethod yX8_distance, Cond.selects RX8 yX8_distance yX8_distance, Cond.code yX8_distance cX8_distance 5 (some .int), Cond.methodLink RX8 155 yX8_lips, Cond.instanceMethod yX8_lips, Cond.selects RX8 yX8_lips yX8_lips, Cond.code yX8_lips cX8_lips 5 (some .int), Cond.methodLink RX8 220 yX8_takenOf, Cond.instanceMethod yX8_takenOf, Cond.selects RX8 yX8_takenOf yX8_takenOf, Cond.code yX8_takenOf cX8_takenOf 6 (some .int), Cond.methodLink RX8 161 yX8_has, Cond.static yX8_has, Cond.code yX8_has cX8_has 2 (some .boolean), Cond.methodLink RX8 176 yX8_isTaken, Cond.instanceMethod yX8_isTaken, Cond.selects RX8 yX8_isTaken yX8_isTaken, Cond.code yX8_isTaken cX8_isTaken 7 (some .boolean), Cond.methodLink RX8 158 yX8_guardOn, Cond.instanceMethod yX8_guardOn, Cond.selects RX8 yX8_guardOn yX8_guardOn, Cond.code yX8_guardOn cX8_guardOn 3 (some .int)]
def wsX8_sure_r3 : List Cond := [Cond.methodLink RX8 217 yX8_ones, Cond.static yX8_ones, Cond.code yX8_ones cX8_ones 3 (some .int)]
def wsX8_sure : List Cond := .code yX8_sure cX8_sure 12 (some .int) :: ((wsX8_sure_r1 ++ (wsX8_sure_r2 ++ wsX8_sure_r3)) ++ wsX80)
def wsX8_drawn_r1 : List Cond := [Cond.constant RX8 183 (-1000002), Cond.constant RX8 230 (999999), Cond.constant RX8 64 (-1000001), Cond.constantLong RX8 231 (16807), Cond.constantLong RX8 233 (2147483647), Cond.fieldLink RX8 25 "WrongWordModel" "now" "[I", Cond.constantLong RX8 235 (6), Cond.methodLink RX8 180 yX8_isGate, Cond.instanceMethod yX8_isGate, Cond.selects RX8 yX8_isGate yX8_isGate, Cond.initialized RX8, Cond.code yX8_isGate cX8_isGate 1 (some .boolean), Cond.methodLink RX8 205 yX8_isFar, Cond.static yX8_isFar, Cond.code yX8_isFar cX8_isFar 1 (some .boolean), Cond.methodLink RX8 56 yX8_in, Cond.static yX8_in, Cond.code yX8_in cX8_in 3 (some .boolean), Cond.methodLink RX8 196 yX8_isTakenNow, Cond.instanceMethod yX8_isTakenNow, Cond.selects RX8 yX8_isTakenNow yX8_isTakenNow, Cond.code yX8_isTakenNow cX8_isTakenNow 5 (some .boolean), Cond.methodLink RX8 172 yX8_secretOf, Cond.static yX8_secretOf]
def wsX8_drawn_r2 : List Cond := [Cond.code yX8_secretOf cX8_secretOf 2 (some .int), Cond.methodLink RX8 176 yX8_isTaken, Cond.instanceMethod yX8_isTaken, Cond.selects RX8 yX8_isTaken yX8_isTaken, Cond.code yX8_isTaken cX8_isTaken 7 (some .boolean), Cond.methodLink RX8 158 yX8_guardOn, Cond.instanceMethod yX8_guardOn, Cond.selects RX8 yX8_guardOn yX8_guardOn, Cond.code yX8_guardOn cX8_guardOn 3 (some .int), Cond.methodLink RX8 161 yX8_has, Cond.static yX8_has, Cond.code yX8_has cX8_has 2 (some .boolean), Cond.methodLink RX8 165 yX8_kindIn, Cond.instanceMethod yX8_kindIn, Cond.selects RX8 yX8_kindIn yX8_kindIn, Cond.code yX8_kindIn cX8_kindIn 2 (some .int), Cond.methodLink RX8 168 yX8_takesBy, Cond.instanceMethod yX8_takesBy, Cond.selects RX8 yX8_takesBy yX8_takesBy, Cond.code yX8_takesBy cX8_takesBy 5 (some .boolean), Cond.methodLink RX8 152 yX8_distance, Cond.instanceMethod yX8_distance, Cond.selects RX8 yX8_distance yX8_distance, Cond.code yX8_distance cX8_distance 5 (some .int)]
def wsX8_drawn_r3 : List Cond := [Cond.methodLink RX8 155 yX8_lips, Cond.instanceMethod yX8_lips, Cond.selects RX8 yX8_lips yX8_lips, Cond.code yX8_lips cX8_lips 5 (some .int)]
def wsX8_drawn : List Cond := .code yX8_drawn cX8_drawn 11 (some .int) :: ((wsX8_drawn_r1 ++ (wsX8_drawn_r2 ++ wsX8_drawn_r3)) ++ wsX80)
def wsX8_image : List Cond := .code yX8_image cX8_image 2 (some .int) :: ([.constant RX8 64 (-1000001), .constant RX8 183 (-1000002), .fieldLink RX8 25 "WrongWordModel" "now" "[I", .fieldLink RX8 37 "WrongWordModel" "images" "[I", .fieldLink RX8 40 "WrongWordModel" "kept" "[Z", .methodLink RX8 56 yX8_in, .static yX8_in, .initialized RX8, .code yX8_in cX8_in 3 (some .boolean), .methodLink RX8 180 yX8_isGate, .instanceMethod yX8_isGate, .selects RX8 yX8_isGate yX8_isGate, .code yX8_isGate cX8_isGate 1 (some .boolean), .methodLink RX8 145 yX8_copies, .static yX8_copies, .code yX8_copies cX8_copies 5 none] ++ wsX80)
def wsX8_restore : List Cond := .code yX8_restore cX8_restore 2 (some .int) :: ([.constant RX8 64 (-1000001), .fieldLink RX8 40 "WrongWordModel" "kept" "[Z", .constant RX8 183 (-1000002), .fieldLink RX8 37 "WrongWordModel" "images" "[I", .fieldLink RX8 25 "WrongWordModel" "now" "[I", .fieldLink RX8 149 "WrongWordModel" "acts" "I", .methodLink RX8 56 yX8_in, .static yX8_in, .initialized RX8, .code yX8_in cX8_in 3 (some .boolean), .methodLink RX8 145 yX8_copies, .static yX8_copies, .code yX8_copies cX8_copies 5 none] ++ wsX80)
def wsX8_kind : List Cond := .code yX8_kind cX8_kind 2 (some .int) :: ([.constant RX8 64 (-1000001), .methodLink RX8 199 yX8_isGuard, .instanceMethod yX8_isGuard, .selects RX8 yX8_isGuard yX8_isGuard, .initialized RX8, .code yX8_isGuard cX8_isGuard 2 (some .boolean), .fieldLink RX8 25 "WrongWordModel" "now" "[I", .methodLink RX8 56 yX8_in, .static yX8_in, .code yX8_in cX8_in 3 (some .boolean), .methodLink RX8 165 yX8_kindIn, .instanceMethod yX8_kindIn, .selects RX8 yX8_kindIn yX8_kindIn, .code yX8_kindIn cX8_kindIn 2 (some .int)] ++ wsX80)
def wsX8_as : List Cond := .code yX8_as cX8_as 5 (some .int) :: ([.constant RX8 64 (-1000001), .methodLink RX8 199 yX8_isGuard, .instanceMethod yX8_isGuard, .selects RX8 yX8_isGuard yX8_isGuard, .initialized RX8, .code yX8_isGuard cX8_isGuard 2 (some .boolean), .fieldLink RX8 25 "WrongWordModel" "now" "[I", .methodLink RX8 56 yX8_in, .static yX8_in, .code yX8_in cX8_in 3 (some .boolean), .methodLink RX8 165 yX8_kindIn, .instanceMethod yX8_kindIn, .selects RX8 yX8_kindIn yX8_kindIn, .code yX8_kindIn cX8_kindIn 2 (some .int), .methodLink RX8 69 yX8_well, .instanceMethod yX8_well, .selects RX8 yX8_well yX8_well, .code yX8_well cX8_well 2 (some .int), .fieldLink RX8 51 "WrongWordModel" "status" "I", .methodLink RX8 65 yX8_found, .instanceMethod yX8_found, .selects RX8 yX8_found yX8_found, .code yX8_found cX8_found 2 (some .int), .constant RX8 55 (-1000010)] ++ wsX80)
def wsX8_begins : List Cond := .code yX8_begins cX8_begins 2 none :: ([.fieldLink RX8 237 "WrongWordModel" "traced" "I", .fieldLink RX8 47 "WrongWordModel" "trace" "[I"] ++ wsX80)
def wsX8_keenMark : List Cond := .code yX8_keenMark cX8_keenMark 4 (some .int) :: ([.fieldLink RX8 25 "WrongWordModel" "now" "[I", .methodLink RX8 165 yX8_kindIn, .instanceMethod yX8_kindIn, .selects RX8 yX8_kindIn yX8_kindIn, .initialized RX8, .code yX8_kindIn cX8_kindIn 2 (some .int), .methodLink RX8 240 yX8_begins, .instanceMethod yX8_begins, .selects RX8 yX8_begins yX8_begins, .code yX8_begins cX8_begins 2 none, .fieldLink RX8 237 "WrongWordModel" "traced" "I", .fieldLink RX8 47 "WrongWordModel" "trace" "[I"] ++ wsX80)
def wsX8_deafSize : List Cond := .code yX8_deafSize cX8_deafSize 4 (some .int) :: ([.fieldLink RX8 25 "WrongWordModel" "now" "[I", .methodLink RX8 165 yX8_kindIn, .instanceMethod yX8_kindIn, .selects RX8 yX8_kindIn yX8_kindIn, .initialized RX8, .code yX8_kindIn cX8_kindIn 2 (some .int), .methodLink RX8 240 yX8_begins, .instanceMethod yX8_begins, .selects RX8 yX8_begins yX8_begins, .code yX8_begins cX8_begins 2 none, .fieldLink RX8 237 "WrongWordModel" "traced" "I", .fieldLink RX8 47 "WrongWordModel" "trace" "[I"] ++ wsX80)
def wsX8_keenSize : List Cond := .code yX8_keenSize cX8_keenSize 4 (some .int) :: ([.fieldLink RX8 25 "WrongWordModel" "now" "[I", .methodLink RX8 165 yX8_kindIn, .instanceMethod yX8_kindIn, .selects RX8 yX8_kindIn yX8_kindIn, .initialized RX8, .code yX8_kindIn cX8_kindIn 2 (some .int), .methodLink RX8 240 yX8_begins, .instanceMethod yX8_begins, .selects RX8 yX8_begins yX8_begins, .code yX8_begins cX8_begins 2 none, .fieldLink RX8 237 "WrongWordModel" "traced" "I", .fieldLink RX8 47 "WrongWordModel" "trace" "[I", .methodLink RX8 244 yX8_keenMark, .instanceMethod yX8_keenMark, .selects RX8 yX8_keenMark yX8_keenMark, .code yX8_keenMark cX8_keenMark 4 (some .int)] ++ wsX80)
def wsX8_deafMark : List Cond := .code yX8_deafMark cX8_deafMark 2 (some .int) :: ([.methodLink RX8 240 yX8_begins, .instanceMethod yX8_begins, .selects RX8 yX8_begins yX8_begins, .initialized RX8, .code yX8_begins cX8_begins 2 none, .fieldLink RX8 237 "WrongWordModel" "traced" "I", .fieldLink RX8 47 "WrongWordModel" "trace" "[I", .methodLink RX8 247 yX8_deafSize, .instanceMethod yX8_deafSize, .selects RX8 yX8_deafSize yX8_deafSize, .code yX8_deafSize cX8_deafSize 4 (some .int), .fieldLink RX8 25 "WrongWordModel" "now" "[I", .methodLink RX8 165 yX8_kindIn, .instanceMethod yX8_kindIn, .selects RX8 yX8_kindIn yX8_kindIn, .code yX8_kindIn cX8_kindIn 2 (some .int)] ++ wsX80)
def wsX8_ask_r1 : List Cond := [Cond.constant RX8 64 (-1000001), Cond.fieldLink RX8 237 "WrongWordModel" "traced" "I", Cond.methodLink RX8 199 yX8_isGuard, Cond.instanceMethod yX8_isGuard, Cond.selects RX8 yX8_isGuard yX8_isGuard, Cond.initialized RX8, Cond.code yX8_isGuard cX8_isGuard 2 (some .boolean), Cond.fieldLink RX8 25 "WrongWordModel" "now" "[I", Cond.methodLink RX8 56 yX8_in, Cond.static yX8_in, Cond.code yX8_in cX8_in 3 (some .boolean), Cond.methodLink RX8 165 yX8_kindIn, Cond.instanceMethod yX8_kindIn, Cond.selects RX8 yX8_kindIn yX8_kindIn, Cond.code yX8_kindIn cX8_kindIn 2 (some .int), Cond.methodLink RX8 247 yX8_deafSize, Cond.instanceMethod yX8_deafSize, Cond.selects RX8 yX8_deafSize yX8_deafSize, Cond.code yX8_deafSize cX8_deafSize 4 (some .int), Cond.methodLink RX8 240 yX8_begins, Cond.instanceMethod yX8_begins, Cond.selects RX8 yX8_begins yX8_begins, Cond.code yX8_begins cX8_begins 2 none, Cond.fieldLink RX8 47 "WrongWordModel" "trace" "[I"]
def wsX8_ask_r2 : List Cond := [Cond.methodLink RX8 250 yX8_keenSize, Cond.instanceMethod yX8_keenSize, Cond.selects RX8 yX8_keenSize yX8_keenSize, Cond.code yX8_keenSize cX8_keenSize 4 (some .int), Cond.methodLink RX8 244 yX8_keenMark, Cond.instanceMethod yX8_keenMark, Cond.selects RX8 yX8_keenMark yX8_keenMark, Cond.code yX8_keenMark cX8_keenMark 4 (some .int), Cond.methodLink RX8 253 yX8_deafMark, Cond.instanceMethod yX8_deafMark, Cond.selects RX8 yX8_deafMark yX8_deafMark, Cond.code yX8_deafMark cX8_deafMark 2 (some .int)]
def wsX8_ask : List Cond := .code yX8_ask cX8_ask 4 (some .int) :: ((wsX8_ask_r1 ++ wsX8_ask_r2) ++ wsX80)
def wsX8_trace : List Cond := .code yX8_trace cX8_trace 2 (some .int) :: ([.fieldLink RX8 237 "WrongWordModel" "traced" "I", .fieldLink RX8 47 "WrongWordModel" "trace" "[I", .constant RX8 50 (-1000000), .methodLink RX8 56 yX8_in, .static yX8_in, .initialized RX8, .code yX8_in cX8_in 3 (some .boolean)] ++ wsX80)
def wsX8_count : List Cond := .code yX8_count cX8_count 4 (some .int) :: ([.fieldLink RX8 25 "WrongWordModel" "now" "[I", .fieldLink RX8 149 "WrongWordModel" "acts" "I", .fieldLink RX8 82 "WrongWordModel" "taped" "I", .constant RX8 64 (-1000001), .methodLink RX8 72 yX8_isMissing, .instanceMethod yX8_isMissing, .selects RX8 yX8_isMissing yX8_isMissing, .initialized RX8, .code yX8_isMissing cX8_isMissing 2 (some .boolean), .fieldLink RX8 7 "WrongWordModel" "lane" "[I", .constant RX8 50 (-1000000)] ++ wsX80)
def wsX8_status : List Cond := .code yX8_status cX8_status 1 (some .int) :: ([.fieldLink RX8 51 "WrongWordModel" "status" "I"] ++ wsX80)
def wsJ9_max_7cf53 : List Cond := .code yJ9_max_7cf53 cJ9_max_7cf53 2 (some .int) :: ([])
def wsJ9_min_7cf53 : List Cond := .code yJ9_min_7cf53 cJ9_min_7cf53 2 (some .int) :: ([])
set_option maxRecDepth 20000 in
theorem ggX0_init_X4_init : GoodIn wsX0_init wsX4_init := goodIn_r _ [9, 10, 2, 3, 11, 12, 13, 14, 15, 19, 20, 21, 22, 23, 24, 25, 26] (by decide +kernel) (by decide +kernel)
set_option maxRecDepth 20000 in
theorem gX0_init_X4_init_n17 : GoodIn wsX0_init (wsX4_init) := ggX0_init_X4_init
def tb_X0_init_1 : List (Nat × Instr × Nat) := [(0, .aload_n 0, 1), (1, .invokespecial 3, 3), (4, .aload_n 0, 1), (5, .bipush 24, 2), (7, .anewarray 9, 3), (10, .putfield 11, 3), (13, .iconst 0, 1), (14, .istore_n 1, 1), (15, .iload_n 1, 1), (16, .bipush 24, 2), (18, .if_icmp .ge 22, 3), (21, .aload_n 0, 1), (22, .getfield 11, 3), (25, .iload_n 1, 1), (26, .new 9, 3), (29, .dup, 1), (30, .invokespecial 17, 3), (33, .aastore, 1), (34, .iinc 1 1, 3), (37, .goto (-22), 3), (40, .return_, 1)]
set_option maxRecDepth 100000 in
theorem tk_X0_init_1 : (tb_X0_init_1.all fun q => decide (decode cX0_init q.1 = .ok q.2)) = true := by decide +kernel
theorem dX0_init_0 : decode cX0_init 0 = .ok (.aload_n 0, 1) := tb_d tk_X0_init_1 0 (0, .aload_n 0, 1) rfl
theorem dX0_init_1 : decode cX0_init 1 = .ok (.invokespecial 3, 3) := tb_d tk_X0_init_1 1 (1, .invokespecial 3, 3) rfl
theorem dX0_init_4 : decode cX0_init 4 = .ok (.aload_n 0, 1) := tb_d tk_X0_init_1 2 (4, .aload_n 0, 1) rfl
theorem dX0_init_5 : decode cX0_init 5 = .ok (.bipush 24, 2) := tb_d tk_X0_init_1 3 (5, .bipush 24, 2) rfl
theorem dX0_init_7 : decode cX0_init 7 = .ok (.anewarray 9, 3) := tb_d tk_X0_init_1 4 (7, .anewarray 9, 3) rfl
theorem dX0_init_10 : decode cX0_init 10 = .ok (.putfield 11, 3) := tb_d tk_X0_init_1 5 (10, .putfield 11, 3) rfl
theorem dX0_init_13 : decode cX0_init 13 = .ok (.iconst 0, 1) := tb_d tk_X0_init_1 6 (13, .iconst 0, 1) rfl
theorem dX0_init_14 : decode cX0_init 14 = .ok (.istore_n 1, 1) := tb_d tk_X0_init_1 7 (14, .istore_n 1, 1) rfl
theorem dX0_init_15 : decode cX0_init 15 = .ok (.iload_n 1, 1) := tb_d tk_X0_init_1 8 (15, .iload_n 1, 1) rfl
theorem dX0_init_16 : decode cX0_init 16 = .ok (.bipush 24, 2) := tb_d tk_X0_init_1 9 (16, .bipush 24, 2) rfl
theorem dX0_init_18 : decode cX0_init 18 = .ok (.if_icmp .ge 22, 3) := tb_d tk_X0_init_1 10 (18, .if_icmp .ge 22, 3) rfl
theorem dX0_init_21 : decode cX0_init 21 = .ok (.aload_n 0, 1) := tb_d tk_X0_init_1 11 (21, .aload_n 0, 1) rfl
theorem dX0_init_22 : decode cX0_init 22 = .ok (.getfield 11, 3) := tb_d tk_X0_init_1 12 (22, .getfield 11, 3) rfl
theorem dX0_init_25 : decode cX0_init 25 = .ok (.iload_n 1, 1) := tb_d tk_X0_init_1 13 (25, .iload_n 1, 1) rfl
theorem dX0_init_26 : decode cX0_init 26 = .ok (.new 9, 3) := tb_d tk_X0_init_1 14 (26, .new 9, 3) rfl
theorem dX0_init_29 : decode cX0_init 29 = .ok (.dup, 1) := tb_d tk_X0_init_1 15 (29, .dup, 1) rfl
theorem dX0_init_30 : decode cX0_init 30 = .ok (.invokespecial 17, 3) := tb_d tk_X0_init_1 16 (30, .invokespecial 17, 3) rfl
theorem dX0_init_33 : decode cX0_init 33 = .ok (.aastore, 1) := tb_d tk_X0_init_1 17 (33, .aastore, 1) rfl
theorem dX0_init_34 : decode cX0_init 34 = .ok (.iinc 1 1, 3) := tb_d tk_X0_init_1 18 (34, .iinc 1 1, 3) rfl
theorem dX0_init_37 : decode cX0_init 37 = .ok (.goto (-22), 3) := tb_d tk_X0_init_1 19 (37, .goto (-22), 3) rfl
theorem dX0_init_40 : decode cX0_init 40 = .ok (.return_, 1) := tb_d tk_X0_init_1 20 (40, .return_, 1) rfl
def tb_X0_forget_1 : List (Nat × Instr × Nat) := [(0, .aload_n 0, 1), (1, .iconst 0, 1), (2, .putfield 18, 3), (5, .return_, 1)]
set_option maxRecDepth 100000 in
theorem tk_X0_forget_1 : (tb_X0_forget_1.all fun q => decide (decode cX0_forget q.1 = .ok q.2)) = true := by decide +kernel
theorem dX0_forget_0 : decode cX0_forget 0 = .ok (.aload_n 0, 1) := tb_d tk_X0_forget_1 0 (0, .aload_n 0, 1) rfl
theorem dX0_forget_1 : decode cX0_forget 1 = .ok (.iconst 0, 1) := tb_d tk_X0_forget_1 1 (1, .iconst 0, 1) rfl
theorem dX0_forget_2 : decode cX0_forget 2 = .ok (.putfield 18, 3) := tb_d tk_X0_forget_1 2 (2, .putfield 18, 3) rfl
theorem dX0_forget_5 : decode cX0_forget 5 = .ok (.return_, 1) := tb_d tk_X0_forget_1 3 (5, .return_, 1) rfl
set_option maxRecDepth 20000 in
theorem ggX0_keep_X4_become : GoodIn wsX0_keep wsX4_become := goodIn_r _ [12, 13, 14, 15, 16, 17, 18, 19, 20, 21, 22, 23, 24, 28, 29, 30, 31, 32, 33, 34, 35] (by decide +kernel) (by decide +kernel)
set_option maxRecDepth 20000 in
theorem gX0_keep_X4_become : GoodIn wsX0_keep (wsV RX0 25 RX4 yX4_become wsX4_become) := goodIn_app (goodIn_of _ (by decide +kernel)) ggX0_keep_X4_become
def tb_X0_keep_1 : List (Nat × Instr × Nat) := [(0, .aload_n 0, 1), (1, .getfield 11, 3), (4, .aload_n 0, 1), (5, .getfield 22, 3), (8, .aaload, 1), (9, .aload_n 1, 1), (10, .invokevirtual 25, 3), (13, .aload_n 0, 1), (14, .aload_n 0, 1), (15, .getfield 22, 3), (18, .iconst 1, 1), (19, .iadd, 1), (20, .bipush 24, 2), (22, .if_icmp .ge 12, 3), (25, .aload_n 0, 1), (26, .getfield 22, 3), (29, .iconst 1, 1), (30, .iadd, 1), (31, .goto 4, 3), (34, .iconst 0, 1), (35, .putfield 22, 3), (38, .aload_n 0, 1), (39, .aload_n 0, 1), (40, .getfield 18, 3), (43, .iconst 1, 1), (44, .iadd, 1), (45, .bipush 24, 2), (47, .invokestatic 29, 3), (50, .putfield 18, 3), (53, .return_, 1)]
set_option maxRecDepth 100000 in
theorem tk_X0_keep_1 : (tb_X0_keep_1.all fun q => decide (decode cX0_keep q.1 = .ok q.2)) = true := by decide +kernel
theorem dX0_keep_0 : decode cX0_keep 0 = .ok (.aload_n 0, 1) := tb_d tk_X0_keep_1 0 (0, .aload_n 0, 1) rfl
theorem dX0_keep_1 : decode cX0_keep 1 = .ok (.getfield 11, 3) := tb_d tk_X0_keep_1 1 (1, .getfield 11, 3) rfl
theorem dX0_keep_4 : decode cX0_keep 4 = .ok (.aload_n 0, 1) := tb_d tk_X0_keep_1 2 (4, .aload_n 0, 1) rfl
theorem dX0_keep_5 : decode cX0_keep 5 = .ok (.getfield 22, 3) := tb_d tk_X0_keep_1 3 (5, .getfield 22, 3) rfl
theorem dX0_keep_8 : decode cX0_keep 8 = .ok (.aaload, 1) := tb_d tk_X0_keep_1 4 (8, .aaload, 1) rfl
theorem dX0_keep_9 : decode cX0_keep 9 = .ok (.aload_n 1, 1) := tb_d tk_X0_keep_1 5 (9, .aload_n 1, 1) rfl
theorem dX0_keep_10 : decode cX0_keep 10 = .ok (.invokevirtual 25, 3) := tb_d tk_X0_keep_1 6 (10, .invokevirtual 25, 3) rfl
theorem dX0_keep_13 : decode cX0_keep 13 = .ok (.aload_n 0, 1) := tb_d tk_X0_keep_1 7 (13, .aload_n 0, 1) rfl
theorem dX0_keep_14 : decode cX0_keep 14 = .ok (.aload_n 0, 1) := tb_d tk_X0_keep_1 8 (14, .aload_n 0, 1) rfl
theorem dX0_keep_15 : decode cX0_keep 15 = .ok (.getfield 22, 3) := tb_d tk_X0_keep_1 9 (15, .getfield 22, 3) rfl
theorem dX0_keep_18 : decode cX0_keep 18 = .ok (.iconst 1, 1) := tb_d tk_X0_keep_1 10 (18, .iconst 1, 1) rfl
theorem dX0_keep_19 : decode cX0_keep 19 = .ok (.iadd, 1) := tb_d tk_X0_keep_1 11 (19, .iadd, 1) rfl
theorem dX0_keep_20 : decode cX0_keep 20 = .ok (.bipush 24, 2) := tb_d tk_X0_keep_1 12 (20, .bipush 24, 2) rfl
theorem dX0_keep_22 : decode cX0_keep 22 = .ok (.if_icmp .ge 12, 3) := tb_d tk_X0_keep_1 13 (22, .if_icmp .ge 12, 3) rfl
theorem dX0_keep_25 : decode cX0_keep 25 = .ok (.aload_n 0, 1) := tb_d tk_X0_keep_1 14 (25, .aload_n 0, 1) rfl
theorem dX0_keep_26 : decode cX0_keep 26 = .ok (.getfield 22, 3) := tb_d tk_X0_keep_1 15 (26, .getfield 22, 3) rfl
theorem dX0_keep_29 : decode cX0_keep 29 = .ok (.iconst 1, 1) := tb_d tk_X0_keep_1 16 (29, .iconst 1, 1) rfl
theorem dX0_keep_30 : decode cX0_keep 30 = .ok (.iadd, 1) := tb_d tk_X0_keep_1 17 (30, .iadd, 1) rfl
theorem dX0_keep_31 : decode cX0_keep 31 = .ok (.goto 4, 3) := tb_d tk_X0_keep_1 18 (31, .goto 4, 3) rfl
theorem dX0_keep_34 : decode cX0_keep 34 = .ok (.iconst 0, 1) := tb_d tk_X0_keep_1 19 (34, .iconst 0, 1) rfl
theorem dX0_keep_35 : decode cX0_keep 35 = .ok (.putfield 22, 3) := tb_d tk_X0_keep_1 20 (35, .putfield 22, 3) rfl
theorem dX0_keep_38 : decode cX0_keep 38 = .ok (.aload_n 0, 1) := tb_d tk_X0_keep_1 21 (38, .aload_n 0, 1) rfl
theorem dX0_keep_39 : decode cX0_keep 39 = .ok (.aload_n 0, 1) := tb_d tk_X0_keep_1 22 (39, .aload_n 0, 1) rfl
theorem dX0_keep_40 : decode cX0_keep 40 = .ok (.getfield 18, 3) := tb_d tk_X0_keep_1 23 (40, .getfield 18, 3) rfl
theorem dX0_keep_43 : decode cX0_keep 43 = .ok (.iconst 1, 1) := tb_d tk_X0_keep_1 24 (43, .iconst 1, 1) rfl
theorem dX0_keep_44 : decode cX0_keep 44 = .ok (.iadd, 1) := tb_d tk_X0_keep_1 25 (44, .iadd, 1) rfl
theorem dX0_keep_45 : decode cX0_keep 45 = .ok (.bipush 24, 2) := tb_d tk_X0_keep_1 26 (45, .bipush 24, 2) rfl
theorem dX0_keep_47 : decode cX0_keep 47 = .ok (.invokestatic 29, 3) := tb_d tk_X0_keep_1 27 (47, .invokestatic 29, 3) rfl
theorem dX0_keep_50 : decode cX0_keep 50 = .ok (.putfield 18, 3) := tb_d tk_X0_keep_1 28 (50, .putfield 18, 3) rfl
theorem dX0_keep_53 : decode cX0_keep 53 = .ok (.return_, 1) := tb_d tk_X0_keep_1 29 (53, .return_, 1) rfl
set_option maxRecDepth 20000 in
theorem ggX0_takeBack_X4_become : GoodIn wsX0_takeBack wsX4_become := goodIn_r _ [8, 9, 10, 11, 12, 13, 14, 15, 16, 17, 18, 19, 20, 24, 25, 26, 27, 28, 29, 30, 31] (by decide +kernel) (by decide +kernel)
set_option maxRecDepth 20000 in
theorem gX0_takeBack_X4_become : GoodIn wsX0_takeBack (wsV RX0 25 RX4 yX4_become wsX4_become) := goodIn_app (goodIn_of _ (by decide +kernel)) ggX0_takeBack_X4_become
def tb_X0_takeBack_1 : List (Nat × Instr × Nat) := [(0, .aload_n 0, 1), (1, .getfield 18, 3), (4, .ifCond .ne 5, 3), (7, .iconst 0, 1), (8, .ireturn, 1), (9, .aload_n 0, 1), (10, .aload_n 0, 1), (11, .getfield 22, 3), (14, .ifCond .le 12, 3), (17, .aload_n 0, 1), (18, .getfield 22, 3), (21, .iconst 1, 1), (22, .isub, 1), (23, .goto 5, 3), (26, .bipush 23, 2), (28, .putfield 22, 3), (31, .aload_n 0, 1), (32, .dup, 1), (33, .getfield 18, 3), (36, .iconst 1, 1), (37, .isub, 1), (38, .putfield 18, 3), (41, .aload_n 1, 1), (42, .aload_n 0, 1), (43, .getfield 11, 3), (46, .aload_n 0, 1), (47, .getfield 22, 3), (50, .aaload, 1), (51, .invokevirtual 25, 3), (54, .iconst 1, 1), (55, .ireturn, 1)]
set_option maxRecDepth 100000 in
theorem tk_X0_takeBack_1 : (tb_X0_takeBack_1.all fun q => decide (decode cX0_takeBack q.1 = .ok q.2)) = true := by decide +kernel
theorem dX0_takeBack_0 : decode cX0_takeBack 0 = .ok (.aload_n 0, 1) := tb_d tk_X0_takeBack_1 0 (0, .aload_n 0, 1) rfl
theorem dX0_takeBack_1 : decode cX0_takeBack 1 = .ok (.getfield 18, 3) := tb_d tk_X0_takeBack_1 1 (1, .getfield 18, 3) rfl
theorem dX0_takeBack_4 : decode cX0_takeBack 4 = .ok (.ifCond .ne 5, 3) := tb_d tk_X0_takeBack_1 2 (4, .ifCond .ne 5, 3) rfl
theorem dX0_takeBack_7 : decode cX0_takeBack 7 = .ok (.iconst 0, 1) := tb_d tk_X0_takeBack_1 3 (7, .iconst 0, 1) rfl
theorem dX0_takeBack_8 : decode cX0_takeBack 8 = .ok (.ireturn, 1) := tb_d tk_X0_takeBack_1 4 (8, .ireturn, 1) rfl
theorem dX0_takeBack_9 : decode cX0_takeBack 9 = .ok (.aload_n 0, 1) := tb_d tk_X0_takeBack_1 5 (9, .aload_n 0, 1) rfl
theorem dX0_takeBack_10 : decode cX0_takeBack 10 = .ok (.aload_n 0, 1) := tb_d tk_X0_takeBack_1 6 (10, .aload_n 0, 1) rfl
theorem dX0_takeBack_11 : decode cX0_takeBack 11 = .ok (.getfield 22, 3) := tb_d tk_X0_takeBack_1 7 (11, .getfield 22, 3) rfl
theorem dX0_takeBack_14 : decode cX0_takeBack 14 = .ok (.ifCond .le 12, 3) := tb_d tk_X0_takeBack_1 8 (14, .ifCond .le 12, 3) rfl
theorem dX0_takeBack_17 : decode cX0_takeBack 17 = .ok (.aload_n 0, 1) := tb_d tk_X0_takeBack_1 9 (17, .aload_n 0, 1) rfl
theorem dX0_takeBack_18 : decode cX0_takeBack 18 = .ok (.getfield 22, 3) := tb_d tk_X0_takeBack_1 10 (18, .getfield 22, 3) rfl
theorem dX0_takeBack_21 : decode cX0_takeBack 21 = .ok (.iconst 1, 1) := tb_d tk_X0_takeBack_1 11 (21, .iconst 1, 1) rfl
theorem dX0_takeBack_22 : decode cX0_takeBack 22 = .ok (.isub, 1) := tb_d tk_X0_takeBack_1 12 (22, .isub, 1) rfl
theorem dX0_takeBack_23 : decode cX0_takeBack 23 = .ok (.goto 5, 3) := tb_d tk_X0_takeBack_1 13 (23, .goto 5, 3) rfl
theorem dX0_takeBack_26 : decode cX0_takeBack 26 = .ok (.bipush 23, 2) := tb_d tk_X0_takeBack_1 14 (26, .bipush 23, 2) rfl
theorem dX0_takeBack_28 : decode cX0_takeBack 28 = .ok (.putfield 22, 3) := tb_d tk_X0_takeBack_1 15 (28, .putfield 22, 3) rfl
theorem dX0_takeBack_31 : decode cX0_takeBack 31 = .ok (.aload_n 0, 1) := tb_d tk_X0_takeBack_1 16 (31, .aload_n 0, 1) rfl
theorem dX0_takeBack_32 : decode cX0_takeBack 32 = .ok (.dup, 1) := tb_d tk_X0_takeBack_1 17 (32, .dup, 1) rfl
theorem dX0_takeBack_33 : decode cX0_takeBack 33 = .ok (.getfield 18, 3) := tb_d tk_X0_takeBack_1 18 (33, .getfield 18, 3) rfl
theorem dX0_takeBack_36 : decode cX0_takeBack 36 = .ok (.iconst 1, 1) := tb_d tk_X0_takeBack_1 19 (36, .iconst 1, 1) rfl
theorem dX0_takeBack_37 : decode cX0_takeBack 37 = .ok (.isub, 1) := tb_d tk_X0_takeBack_1 20 (37, .isub, 1) rfl
theorem dX0_takeBack_38 : decode cX0_takeBack 38 = .ok (.putfield 18, 3) := tb_d tk_X0_takeBack_1 21 (38, .putfield 18, 3) rfl
theorem dX0_takeBack_41 : decode cX0_takeBack 41 = .ok (.aload_n 1, 1) := tb_d tk_X0_takeBack_1 22 (41, .aload_n 1, 1) rfl
theorem dX0_takeBack_42 : decode cX0_takeBack 42 = .ok (.aload_n 0, 1) := tb_d tk_X0_takeBack_1 23 (42, .aload_n 0, 1) rfl
theorem dX0_takeBack_43 : decode cX0_takeBack 43 = .ok (.getfield 11, 3) := tb_d tk_X0_takeBack_1 24 (43, .getfield 11, 3) rfl
theorem dX0_takeBack_46 : decode cX0_takeBack 46 = .ok (.aload_n 0, 1) := tb_d tk_X0_takeBack_1 25 (46, .aload_n 0, 1) rfl
theorem dX0_takeBack_47 : decode cX0_takeBack 47 = .ok (.getfield 22, 3) := tb_d tk_X0_takeBack_1 26 (47, .getfield 22, 3) rfl
theorem dX0_takeBack_50 : decode cX0_takeBack 50 = .ok (.aaload, 1) := tb_d tk_X0_takeBack_1 27 (50, .aaload, 1) rfl
theorem dX0_takeBack_51 : decode cX0_takeBack 51 = .ok (.invokevirtual 25, 3) := tb_d tk_X0_takeBack_1 28 (51, .invokevirtual 25, 3) rfl
theorem dX0_takeBack_54 : decode cX0_takeBack 54 = .ok (.iconst 1, 1) := tb_d tk_X0_takeBack_1 29 (54, .iconst 1, 1) rfl
theorem dX0_takeBack_55 : decode cX0_takeBack 55 = .ok (.ireturn, 1) := tb_d tk_X0_takeBack_1 30 (55, .ireturn, 1) rfl
def tb_X1_init_1 : List (Nat × Instr × Nat) := [(0, .aload_n 0, 1), (1, .invokespecial 3, 3), (4, .aload_n 0, 1), (5, .bipush 16, 2), (7, .newarray .int, 2), (9, .putfield 11, 3), (12, .return_, 1)]
set_option maxRecDepth 100000 in
theorem tk_X1_init_1 : (tb_X1_init_1.all fun q => decide (decode cX1_init q.1 = .ok q.2)) = true := by decide +kernel
theorem dX1_init_0 : decode cX1_init 0 = .ok (.aload_n 0, 1) := tb_d tk_X1_init_1 0 (0, .aload_n 0, 1) rfl
theorem dX1_init_1 : decode cX1_init 1 = .ok (.invokespecial 3, 3) := tb_d tk_X1_init_1 1 (1, .invokespecial 3, 3) rfl
theorem dX1_init_4 : decode cX1_init 4 = .ok (.aload_n 0, 1) := tb_d tk_X1_init_1 2 (4, .aload_n 0, 1) rfl
theorem dX1_init_5 : decode cX1_init 5 = .ok (.bipush 16, 2) := tb_d tk_X1_init_1 3 (5, .bipush 16, 2) rfl
theorem dX1_init_7 : decode cX1_init 7 = .ok (.newarray .int, 2) := tb_d tk_X1_init_1 4 (7, .newarray .int, 2) rfl
theorem dX1_init_9 : decode cX1_init 9 = .ok (.putfield 11, 3) := tb_d tk_X1_init_1 5 (9, .putfield 11, 3) rfl
theorem dX1_init_12 : decode cX1_init 12 = .ok (.return_, 1) := tb_d tk_X1_init_1 6 (12, .return_, 1) rfl
def tb_X1_isA_1 : List (Nat × Instr × Nat) := [(0, .iload_n 0, 1), (1, .istore_n 2, 1), (2, .iconst 0, 1), (3, .istore_n 3, 1), (4, .iload_n 3, 1), (5, .iconst 5, 1), (6, .if_icmp .gt 31, 3), (9, .iload_n 2, 1), (10, .ifCond .lt 27, 3), (13, .iload_n 2, 1), (14, .iconst 5, 1), (15, .if_icmp .gt 22, 3), (18, .iload_n 2, 1), (19, .iload_n 1, 1), (20, .if_icmp .ne 5, 3), (23, .iconst 1, 1), (24, .ireturn, 1), (25, .getstatic 15, 3), (28, .iload_n 2, 1), (29, .iaload, 1), (30, .istore_n 2, 1), (31, .iinc 3 1, 3), (34, .goto (-30), 3), (37, .iconst 0, 1), (38, .ireturn, 1)]
set_option maxRecDepth 100000 in
theorem tk_X1_isA_1 : (tb_X1_isA_1.all fun q => decide (decode cX1_isA q.1 = .ok q.2)) = true := by decide +kernel
theorem dX1_isA_0 : decode cX1_isA 0 = .ok (.iload_n 0, 1) := tb_d tk_X1_isA_1 0 (0, .iload_n 0, 1) rfl
theorem dX1_isA_1 : decode cX1_isA 1 = .ok (.istore_n 2, 1) := tb_d tk_X1_isA_1 1 (1, .istore_n 2, 1) rfl
theorem dX1_isA_2 : decode cX1_isA 2 = .ok (.iconst 0, 1) := tb_d tk_X1_isA_1 2 (2, .iconst 0, 1) rfl
theorem dX1_isA_3 : decode cX1_isA 3 = .ok (.istore_n 3, 1) := tb_d tk_X1_isA_1 3 (3, .istore_n 3, 1) rfl
theorem dX1_isA_4 : decode cX1_isA 4 = .ok (.iload_n 3, 1) := tb_d tk_X1_isA_1 4 (4, .iload_n 3, 1) rfl
theorem dX1_isA_5 : decode cX1_isA 5 = .ok (.iconst 5, 1) := tb_d tk_X1_isA_1 5 (5, .iconst 5, 1) rfl
theorem dX1_isA_6 : decode cX1_isA 6 = .ok (.if_icmp .gt 31, 3) := tb_d tk_X1_isA_1 6 (6, .if_icmp .gt 31, 3) rfl
theorem dX1_isA_9 : decode cX1_isA 9 = .ok (.iload_n 2, 1) := tb_d tk_X1_isA_1 7 (9, .iload_n 2, 1) rfl
theorem dX1_isA_10 : decode cX1_isA 10 = .ok (.ifCond .lt 27, 3) := tb_d tk_X1_isA_1 8 (10, .ifCond .lt 27, 3) rfl
theorem dX1_isA_13 : decode cX1_isA 13 = .ok (.iload_n 2, 1) := tb_d tk_X1_isA_1 9 (13, .iload_n 2, 1) rfl
theorem dX1_isA_14 : decode cX1_isA 14 = .ok (.iconst 5, 1) := tb_d tk_X1_isA_1 10 (14, .iconst 5, 1) rfl
theorem dX1_isA_15 : decode cX1_isA 15 = .ok (.if_icmp .gt 22, 3) := tb_d tk_X1_isA_1 11 (15, .if_icmp .gt 22, 3) rfl
theorem dX1_isA_18 : decode cX1_isA 18 = .ok (.iload_n 2, 1) := tb_d tk_X1_isA_1 12 (18, .iload_n 2, 1) rfl
theorem dX1_isA_19 : decode cX1_isA 19 = .ok (.iload_n 1, 1) := tb_d tk_X1_isA_1 13 (19, .iload_n 1, 1) rfl
theorem dX1_isA_20 : decode cX1_isA 20 = .ok (.if_icmp .ne 5, 3) := tb_d tk_X1_isA_1 14 (20, .if_icmp .ne 5, 3) rfl
theorem dX1_isA_23 : decode cX1_isA 23 = .ok (.iconst 1, 1) := tb_d tk_X1_isA_1 15 (23, .iconst 1, 1) rfl
theorem dX1_isA_24 : decode cX1_isA 24 = .ok (.ireturn, 1) := tb_d tk_X1_isA_1 16 (24, .ireturn, 1) rfl
theorem dX1_isA_25 : decode cX1_isA 25 = .ok (.getstatic 15, 3) := tb_d tk_X1_isA_1 17 (25, .getstatic 15, 3) rfl
theorem dX1_isA_28 : decode cX1_isA 28 = .ok (.iload_n 2, 1) := tb_d tk_X1_isA_1 18 (28, .iload_n 2, 1) rfl
theorem dX1_isA_29 : decode cX1_isA 29 = .ok (.iaload, 1) := tb_d tk_X1_isA_1 19 (29, .iaload, 1) rfl
theorem dX1_isA_30 : decode cX1_isA 30 = .ok (.istore_n 2, 1) := tb_d tk_X1_isA_1 20 (30, .istore_n 2, 1) rfl
theorem dX1_isA_31 : decode cX1_isA 31 = .ok (.iinc 3 1, 3) := tb_d tk_X1_isA_1 21 (31, .iinc 3 1, 3) rfl
theorem dX1_isA_34 : decode cX1_isA 34 = .ok (.goto (-30), 3) := tb_d tk_X1_isA_1 22 (34, .goto (-30), 3) rfl
theorem dX1_isA_37 : decode cX1_isA 37 = .ok (.iconst 0, 1) := tb_d tk_X1_isA_1 23 (37, .iconst 0, 1) rfl
theorem dX1_isA_38 : decode cX1_isA 38 = .ok (.ireturn, 1) := tb_d tk_X1_isA_1 24 (38, .ireturn, 1) rfl
def tb_X1_turnTo_1 : List (Nat × Instr × Nat) := [(0, .aload_n 0, 1), (1, .iload_n 1, 1), (2, .putfield 18, 3), (5, .aload_n 0, 1), (6, .iload_n 2, 1), (7, .putfield 22, 3), (10, .aload_n 0, 1), (11, .iload_n 3, 1), (12, .putfield 25, 3), (15, .aload_n 0, 1), (16, .iload 4, 2), (18, .putfield 28, 3), (21, .aload_n 0, 1), (22, .iconst 0, 1), (23, .putfield 31, 3), (26, .return_, 1)]
set_option maxRecDepth 100000 in
theorem tk_X1_turnTo_1 : (tb_X1_turnTo_1.all fun q => decide (decode cX1_turnTo q.1 = .ok q.2)) = true := by decide +kernel
theorem dX1_turnTo_0 : decode cX1_turnTo 0 = .ok (.aload_n 0, 1) := tb_d tk_X1_turnTo_1 0 (0, .aload_n 0, 1) rfl
theorem dX1_turnTo_1 : decode cX1_turnTo 1 = .ok (.iload_n 1, 1) := tb_d tk_X1_turnTo_1 1 (1, .iload_n 1, 1) rfl
theorem dX1_turnTo_2 : decode cX1_turnTo 2 = .ok (.putfield 18, 3) := tb_d tk_X1_turnTo_1 2 (2, .putfield 18, 3) rfl
theorem dX1_turnTo_5 : decode cX1_turnTo 5 = .ok (.aload_n 0, 1) := tb_d tk_X1_turnTo_1 3 (5, .aload_n 0, 1) rfl
theorem dX1_turnTo_6 : decode cX1_turnTo 6 = .ok (.iload_n 2, 1) := tb_d tk_X1_turnTo_1 4 (6, .iload_n 2, 1) rfl
theorem dX1_turnTo_7 : decode cX1_turnTo 7 = .ok (.putfield 22, 3) := tb_d tk_X1_turnTo_1 5 (7, .putfield 22, 3) rfl
theorem dX1_turnTo_10 : decode cX1_turnTo 10 = .ok (.aload_n 0, 1) := tb_d tk_X1_turnTo_1 6 (10, .aload_n 0, 1) rfl
theorem dX1_turnTo_11 : decode cX1_turnTo 11 = .ok (.iload_n 3, 1) := tb_d tk_X1_turnTo_1 7 (11, .iload_n 3, 1) rfl
theorem dX1_turnTo_12 : decode cX1_turnTo 12 = .ok (.putfield 25, 3) := tb_d tk_X1_turnTo_1 8 (12, .putfield 25, 3) rfl
theorem dX1_turnTo_15 : decode cX1_turnTo 15 = .ok (.aload_n 0, 1) := tb_d tk_X1_turnTo_1 9 (15, .aload_n 0, 1) rfl
theorem dX1_turnTo_16 : decode cX1_turnTo 16 = .ok (.iload 4, 2) := tb_d tk_X1_turnTo_1 10 (16, .iload 4, 2) rfl
theorem dX1_turnTo_18 : decode cX1_turnTo 18 = .ok (.putfield 28, 3) := tb_d tk_X1_turnTo_1 11 (18, .putfield 28, 3) rfl
theorem dX1_turnTo_21 : decode cX1_turnTo 21 = .ok (.aload_n 0, 1) := tb_d tk_X1_turnTo_1 12 (21, .aload_n 0, 1) rfl
theorem dX1_turnTo_22 : decode cX1_turnTo 22 = .ok (.iconst 0, 1) := tb_d tk_X1_turnTo_1 13 (22, .iconst 0, 1) rfl
theorem dX1_turnTo_23 : decode cX1_turnTo 23 = .ok (.putfield 31, 3) := tb_d tk_X1_turnTo_1 14 (23, .putfield 31, 3) rfl
theorem dX1_turnTo_26 : decode cX1_turnTo 26 = .ok (.return_, 1) := tb_d tk_X1_turnTo_1 15 (26, .return_, 1) rfl
set_option maxRecDepth 20000 in
theorem ggX1_answer_X1_sizeBody : GoodIn wsX1_answer wsX1_sizeBody := goodIn_r _ [5, 6, 7, 25, 26, 27, 28, 29, 30] (by decide +kernel) (by decide +kernel)
set_option maxRecDepth 20000 in
theorem gX1_answer_X1_sizeBody : GoodIn wsX1_answer (wsV RX1 34 RX1 yX1_sizeBody wsX1_sizeBody) := goodIn_app (goodIn_of _ (by decide +kernel)) ggX1_answer_X1_sizeBody
set_option maxRecDepth 20000 in
theorem ggX1_answer_X1_markBody : GoodIn wsX1_answer wsX1_markBody := goodIn_r _ [11, 12, 7, 25, 26, 27, 28, 29, 30] (by decide +kernel) (by decide +kernel)
set_option maxRecDepth 20000 in
theorem gX1_answer_X1_markBody : GoodIn wsX1_answer (wsV RX1 38 RX1 yX1_markBody wsX1_markBody) := goodIn_app (goodIn_of _ (by decide +kernel)) ggX1_answer_X1_markBody
set_option maxRecDepth 20000 in
theorem ggX1_answer_X1_given : GoodIn wsX1_answer wsX1_given := goodIn_r _ [15, 16, 17, 18, 19, 20, 21, 4, 22, 23, 24, 13, 14, 8, 9, 10, 11, 12, 7, 1, 2, 3, 5, 6, 25, 26, 27, 28, 29, 30] (by decide +kernel) (by decide +kernel)
set_option maxRecDepth 20000 in
theorem gX1_answer_X1_given : GoodIn wsX1_answer (va_wsS RX1 41 yX1_given wsX1_given) := goodIn_app (goodIn_of _ (by decide +kernel)) ggX1_answer_X1_given
def tb_X1_answer_1 : List (Nat × Instr × Nat) := [(0, .aload_n 0, 1), (1, .iload_n 1, 1), (2, .ifCond .ne 10, 3), (5, .aload_n 0, 1), (6, .invokevirtual 34, 3), (9, .goto 7, 3), (12, .aload_n 0, 1), (13, .invokevirtual 38, 3), (16, .iconst 0, 1), (17, .invokestatic 41, 3), (20, .ireturn, 1)]
set_option maxRecDepth 100000 in
theorem tk_X1_answer_1 : (tb_X1_answer_1.all fun q => decide (decode cX1_answer q.1 = .ok q.2)) = true := by decide +kernel
theorem dX1_answer_0 : decode cX1_answer 0 = .ok (.aload_n 0, 1) := tb_d tk_X1_answer_1 0 (0, .aload_n 0, 1) rfl
theorem dX1_answer_1 : decode cX1_answer 1 = .ok (.iload_n 1, 1) := tb_d tk_X1_answer_1 1 (1, .iload_n 1, 1) rfl
theorem dX1_answer_2 : decode cX1_answer 2 = .ok (.ifCond .ne 10, 3) := tb_d tk_X1_answer_1 2 (2, .ifCond .ne 10, 3) rfl
theorem dX1_answer_5 : decode cX1_answer 5 = .ok (.aload_n 0, 1) := tb_d tk_X1_answer_1 3 (5, .aload_n 0, 1) rfl
theorem dX1_answer_6 : decode cX1_answer 6 = .ok (.invokevirtual 34, 3) := tb_d tk_X1_answer_1 4 (6, .invokevirtual 34, 3) rfl
theorem dX1_answer_9 : decode cX1_answer 9 = .ok (.goto 7, 3) := tb_d tk_X1_answer_1 5 (9, .goto 7, 3) rfl
theorem dX1_answer_12 : decode cX1_answer 12 = .ok (.aload_n 0, 1) := tb_d tk_X1_answer_1 6 (12, .aload_n 0, 1) rfl
theorem dX1_answer_13 : decode cX1_answer 13 = .ok (.invokevirtual 38, 3) := tb_d tk_X1_answer_1 7 (13, .invokevirtual 38, 3) rfl
theorem dX1_answer_16 : decode cX1_answer 16 = .ok (.iconst 0, 1) := tb_d tk_X1_answer_1 8 (16, .iconst 0, 1) rfl
theorem dX1_answer_17 : decode cX1_answer 17 = .ok (.invokestatic 41, 3) := tb_d tk_X1_answer_1 9 (17, .invokestatic 41, 3) rfl
theorem dX1_answer_20 : decode cX1_answer 20 = .ok (.ireturn, 1) := tb_d tk_X1_answer_1 10 (20, .ireturn, 1) rfl
def tb_X1_sizeBody_1 : List (Nat × Instr × Nat) := [(0, .getstatic 45, 3), (3, .aload_n 0, 1), (4, .getfield 22, 3), (7, .ifCond .lt 18, 3), (10, .aload_n 0, 1), (11, .getfield 22, 3), (14, .iconst 5, 1), (15, .if_icmp .gt 10, 3), (18, .aload_n 0, 1), (19, .getfield 22, 3), (22, .goto 4, 3), (25, .iconst 0, 1), (26, .iaload, 1), (27, .ireturn, 1)]
set_option maxRecDepth 100000 in
theorem tk_X1_sizeBody_1 : (tb_X1_sizeBody_1.all fun q => decide (decode cX1_sizeBody q.1 = .ok q.2)) = true := by decide +kernel
theorem dX1_sizeBody_0 : decode cX1_sizeBody 0 = .ok (.getstatic 45, 3) := tb_d tk_X1_sizeBody_1 0 (0, .getstatic 45, 3) rfl
theorem dX1_sizeBody_3 : decode cX1_sizeBody 3 = .ok (.aload_n 0, 1) := tb_d tk_X1_sizeBody_1 1 (3, .aload_n 0, 1) rfl
theorem dX1_sizeBody_4 : decode cX1_sizeBody 4 = .ok (.getfield 22, 3) := tb_d tk_X1_sizeBody_1 2 (4, .getfield 22, 3) rfl
theorem dX1_sizeBody_7 : decode cX1_sizeBody 7 = .ok (.ifCond .lt 18, 3) := tb_d tk_X1_sizeBody_1 3 (7, .ifCond .lt 18, 3) rfl
theorem dX1_sizeBody_10 : decode cX1_sizeBody 10 = .ok (.aload_n 0, 1) := tb_d tk_X1_sizeBody_1 4 (10, .aload_n 0, 1) rfl
theorem dX1_sizeBody_11 : decode cX1_sizeBody 11 = .ok (.getfield 22, 3) := tb_d tk_X1_sizeBody_1 5 (11, .getfield 22, 3) rfl
theorem dX1_sizeBody_14 : decode cX1_sizeBody 14 = .ok (.iconst 5, 1) := tb_d tk_X1_sizeBody_1 6 (14, .iconst 5, 1) rfl
theorem dX1_sizeBody_15 : decode cX1_sizeBody 15 = .ok (.if_icmp .gt 10, 3) := tb_d tk_X1_sizeBody_1 7 (15, .if_icmp .gt 10, 3) rfl
theorem dX1_sizeBody_18 : decode cX1_sizeBody 18 = .ok (.aload_n 0, 1) := tb_d tk_X1_sizeBody_1 8 (18, .aload_n 0, 1) rfl
theorem dX1_sizeBody_19 : decode cX1_sizeBody 19 = .ok (.getfield 22, 3) := tb_d tk_X1_sizeBody_1 9 (19, .getfield 22, 3) rfl
theorem dX1_sizeBody_22 : decode cX1_sizeBody 22 = .ok (.goto 4, 3) := tb_d tk_X1_sizeBody_1 10 (22, .goto 4, 3) rfl
theorem dX1_sizeBody_25 : decode cX1_sizeBody 25 = .ok (.iconst 0, 1) := tb_d tk_X1_sizeBody_1 11 (25, .iconst 0, 1) rfl
theorem dX1_sizeBody_26 : decode cX1_sizeBody 26 = .ok (.iaload, 1) := tb_d tk_X1_sizeBody_1 12 (26, .iaload, 1) rfl
theorem dX1_sizeBody_27 : decode cX1_sizeBody 27 = .ok (.ireturn, 1) := tb_d tk_X1_sizeBody_1 13 (27, .ireturn, 1) rfl
def tb_X1_markBody_1 : List (Nat × Instr × Nat) := [(0, .getstatic 48, 3), (3, .aload_n 0, 1), (4, .getfield 22, 3), (7, .ifCond .lt 18, 3), (10, .aload_n 0, 1), (11, .getfield 22, 3), (14, .iconst 5, 1), (15, .if_icmp .gt 10, 3), (18, .aload_n 0, 1), (19, .getfield 22, 3), (22, .goto 4, 3), (25, .iconst 0, 1), (26, .iaload, 1), (27, .ireturn, 1)]
set_option maxRecDepth 100000 in
theorem tk_X1_markBody_1 : (tb_X1_markBody_1.all fun q => decide (decode cX1_markBody q.1 = .ok q.2)) = true := by decide +kernel
theorem dX1_markBody_0 : decode cX1_markBody 0 = .ok (.getstatic 48, 3) := tb_d tk_X1_markBody_1 0 (0, .getstatic 48, 3) rfl
theorem dX1_markBody_3 : decode cX1_markBody 3 = .ok (.aload_n 0, 1) := tb_d tk_X1_markBody_1 1 (3, .aload_n 0, 1) rfl
theorem dX1_markBody_4 : decode cX1_markBody 4 = .ok (.getfield 22, 3) := tb_d tk_X1_markBody_1 2 (4, .getfield 22, 3) rfl
theorem dX1_markBody_7 : decode cX1_markBody 7 = .ok (.ifCond .lt 18, 3) := tb_d tk_X1_markBody_1 3 (7, .ifCond .lt 18, 3) rfl
theorem dX1_markBody_10 : decode cX1_markBody 10 = .ok (.aload_n 0, 1) := tb_d tk_X1_markBody_1 4 (10, .aload_n 0, 1) rfl
theorem dX1_markBody_11 : decode cX1_markBody 11 = .ok (.getfield 22, 3) := tb_d tk_X1_markBody_1 5 (11, .getfield 22, 3) rfl
theorem dX1_markBody_14 : decode cX1_markBody 14 = .ok (.iconst 5, 1) := tb_d tk_X1_markBody_1 6 (14, .iconst 5, 1) rfl
theorem dX1_markBody_15 : decode cX1_markBody 15 = .ok (.if_icmp .gt 10, 3) := tb_d tk_X1_markBody_1 7 (15, .if_icmp .gt 10, 3) rfl
theorem dX1_markBody_18 : decode cX1_markBody 18 = .ok (.aload_n 0, 1) := tb_d tk_X1_markBody_1 8 (18, .aload_n 0, 1) rfl
theorem dX1_markBody_19 : decode cX1_markBody 19 = .ok (.getfield 22, 3) := tb_d tk_X1_markBody_1 9 (19, .getfield 22, 3) rfl
theorem dX1_markBody_22 : decode cX1_markBody 22 = .ok (.goto 4, 3) := tb_d tk_X1_markBody_1 10 (22, .goto 4, 3) rfl
theorem dX1_markBody_25 : decode cX1_markBody 25 = .ok (.iconst 0, 1) := tb_d tk_X1_markBody_1 11 (25, .iconst 0, 1) rfl
theorem dX1_markBody_26 : decode cX1_markBody 26 = .ok (.iaload, 1) := tb_d tk_X1_markBody_1 12 (26, .iaload, 1) rfl
theorem dX1_markBody_27 : decode cX1_markBody 27 = .ok (.ireturn, 1) := tb_d tk_X1_markBody_1 13 (27, .ireturn, 1) rfl
def tb_X1_leave_1 : List (Nat × Instr × Nat) := [(0, .aload_n 0, 1), (1, .getfield 31, 3), (4, .bipush 16, 2), (6, .if_icmp .ge 23, 3), (9, .aload_n 0, 1), (10, .getfield 11, 3), (13, .aload_n 0, 1), (14, .getfield 31, 3), (17, .iload_n 1, 1), (18, .iastore, 1), (19, .aload_n 0, 1), (20, .dup, 1), (21, .getfield 31, 3), (24, .iconst 1, 1), (25, .iadd, 1), (26, .putfield 31, 3), (29, .return_, 1)]
set_option maxRecDepth 100000 in
theorem tk_X1_leave_1 : (tb_X1_leave_1.all fun q => decide (decode cX1_leave q.1 = .ok q.2)) = true := by decide +kernel
theorem dX1_leave_0 : decode cX1_leave 0 = .ok (.aload_n 0, 1) := tb_d tk_X1_leave_1 0 (0, .aload_n 0, 1) rfl
theorem dX1_leave_1 : decode cX1_leave 1 = .ok (.getfield 31, 3) := tb_d tk_X1_leave_1 1 (1, .getfield 31, 3) rfl
theorem dX1_leave_4 : decode cX1_leave 4 = .ok (.bipush 16, 2) := tb_d tk_X1_leave_1 2 (4, .bipush 16, 2) rfl
theorem dX1_leave_6 : decode cX1_leave 6 = .ok (.if_icmp .ge 23, 3) := tb_d tk_X1_leave_1 3 (6, .if_icmp .ge 23, 3) rfl
theorem dX1_leave_9 : decode cX1_leave 9 = .ok (.aload_n 0, 1) := tb_d tk_X1_leave_1 4 (9, .aload_n 0, 1) rfl
theorem dX1_leave_10 : decode cX1_leave 10 = .ok (.getfield 11, 3) := tb_d tk_X1_leave_1 5 (10, .getfield 11, 3) rfl
theorem dX1_leave_13 : decode cX1_leave 13 = .ok (.aload_n 0, 1) := tb_d tk_X1_leave_1 6 (13, .aload_n 0, 1) rfl
theorem dX1_leave_14 : decode cX1_leave 14 = .ok (.getfield 31, 3) := tb_d tk_X1_leave_1 7 (14, .getfield 31, 3) rfl
theorem dX1_leave_17 : decode cX1_leave 17 = .ok (.iload_n 1, 1) := tb_d tk_X1_leave_1 8 (17, .iload_n 1, 1) rfl
theorem dX1_leave_18 : decode cX1_leave 18 = .ok (.iastore, 1) := tb_d tk_X1_leave_1 9 (18, .iastore, 1) rfl
theorem dX1_leave_19 : decode cX1_leave 19 = .ok (.aload_n 0, 1) := tb_d tk_X1_leave_1 10 (19, .aload_n 0, 1) rfl
theorem dX1_leave_20 : decode cX1_leave 20 = .ok (.dup, 1) := tb_d tk_X1_leave_1 11 (20, .dup, 1) rfl
theorem dX1_leave_21 : decode cX1_leave 21 = .ok (.getfield 31, 3) := tb_d tk_X1_leave_1 12 (21, .getfield 31, 3) rfl
theorem dX1_leave_24 : decode cX1_leave 24 = .ok (.iconst 1, 1) := tb_d tk_X1_leave_1 13 (24, .iconst 1, 1) rfl
theorem dX1_leave_25 : decode cX1_leave 25 = .ok (.iadd, 1) := tb_d tk_X1_leave_1 14 (25, .iadd, 1) rfl
theorem dX1_leave_26 : decode cX1_leave 26 = .ok (.putfield 31, 3) := tb_d tk_X1_leave_1 15 (26, .putfield 31, 3) rfl
theorem dX1_leave_29 : decode cX1_leave 29 = .ok (.return_, 1) := tb_d tk_X1_leave_1 16 (29, .return_, 1) rfl
set_option maxRecDepth 20000 in
theorem ggX1_given_X1_leave : GoodIn wsX1_given wsX1_leave := goodIn_r _ [8, 9, 10, 24, 25, 26, 27, 28, 29] (by decide +kernel) (by decide +kernel)
set_option maxRecDepth 20000 in
theorem gX1_given_X1_leave : GoodIn wsX1_given (wsV RX1 51 RX1 yX1_leave wsX1_leave) := goodIn_app (goodIn_of _ (by decide +kernel)) ggX1_given_X1_leave
set_option maxRecDepth 20000 in
theorem ggX1_given_X1_given : GoodIn wsX1_given wsX1_given := goodIn_r _ [0, 1, 2, 3, 4, 5, 6, 7, 8, 9, 10, 11, 12, 13, 14, 15, 16, 17, 18, 19, 20, 21, 22, 23, 24, 25, 26, 27, 28, 29] (by decide +kernel) (by decide +kernel)
set_option maxRecDepth 20000 in
theorem gX1_given_X1_given : GoodIn wsX1_given (va_wsS RX1 41 yX1_given wsX1_given) := goodIn_app (goodIn_of _ (by decide +kernel)) ggX1_given_X1_given
set_option maxRecDepth 20000 in
theorem ggX1_given_X1_markBody : GoodIn wsX1_given wsX1_markBody := goodIn_r _ [16, 17, 18, 24, 25, 26, 27, 28, 29] (by decide +kernel) (by decide +kernel)
set_option maxRecDepth 20000 in
theorem gX1_given_X1_markBody : GoodIn wsX1_given (wsV RX1 38 RX1 yX1_markBody wsX1_markBody) := goodIn_app (goodIn_of _ (by decide +kernel)) ggX1_given_X1_markBody
set_option maxRecDepth 20000 in
theorem ggX1_given_X1_sizeBody : GoodIn wsX1_given wsX1_sizeBody := goodIn_r _ [22, 23, 18, 24, 25, 26, 27, 28, 29] (by decide +kernel) (by decide +kernel)
set_option maxRecDepth 20000 in
theorem gX1_given_X1_sizeBody : GoodIn wsX1_given (wsV RX1 34 RX1 yX1_sizeBody wsX1_sizeBody) := goodIn_app (goodIn_of _ (by decide +kernel)) ggX1_given_X1_sizeBody
def tb_X1_given_1 : List (Nat × Instr × Nat) := [(0, .iload_n 2, 1), (1, .bipush 20, 2), (3, .if_icmp .le 5, 3), (6, .iconst 0, 1), (7, .ireturn, 1), (8, .aload_n 0, 1), (9, .iload_n 1, 1), (10, .invokevirtual 51, 3), (13, .iload_n 2, 1), (14, .iconst 1, 1), (15, .iadd, 1), (16, .istore_n 3, 1), (17, .iload_n 1, 1), (18, .tableswitch 185 10 24 #[74, 79, 97, 106, 117, 185, 185, 185, 185, 185, 127, 132, 145, 157, 175], 74), (92, .aload_n 0, 1), (93, .getfield 25, 3), (96, .ireturn, 1), (97, .aload_n 0, 1), (98, .bipush 10, 2), (100, .iload_n 3, 1), (101, .invokestatic 41, 3), (104, .aload_n 0, 1), (105, .aload_n 0, 1), (106, .invokevirtual 38, 3), (109, .iload_n 3, 1), (110, .invokestatic 41, 3), (113, .iadd, 1), (114, .ireturn, 1), (115, .aload_n 0, 1), (116, .bipush 11, 2), (118, .iload_n 3, 1), (119, .invokestatic 41, 3), (122, .ineg, 1), (123, .ireturn, 1), (124, .aload_n 0, 1), (125, .bipush 10, 2), (127, .iload_n 3, 1), (128, .invokestatic 41, 3), (131, .bipush 100, 2), (133, .isub, 1)]
set_option maxRecDepth 100000 in
theorem tk_X1_given_1 : (tb_X1_given_1.all fun q => decide (decode cX1_given q.1 = .ok q.2)) = true := by decide +kernel
theorem dX1_given_0 : decode cX1_given 0 = .ok (.iload_n 2, 1) := tb_d tk_X1_given_1 0 (0, .iload_n 2, 1) rfl
theorem dX1_given_1 : decode cX1_given 1 = .ok (.bipush 20, 2) := tb_d tk_X1_given_1 1 (1, .bipush 20, 2) rfl
theorem dX1_given_3 : decode cX1_given 3 = .ok (.if_icmp .le 5, 3) := tb_d tk_X1_given_1 2 (3, .if_icmp .le 5, 3) rfl
theorem dX1_given_6 : decode cX1_given 6 = .ok (.iconst 0, 1) := tb_d tk_X1_given_1 3 (6, .iconst 0, 1) rfl
theorem dX1_given_7 : decode cX1_given 7 = .ok (.ireturn, 1) := tb_d tk_X1_given_1 4 (7, .ireturn, 1) rfl
theorem dX1_given_8 : decode cX1_given 8 = .ok (.aload_n 0, 1) := tb_d tk_X1_given_1 5 (8, .aload_n 0, 1) rfl
theorem dX1_given_9 : decode cX1_given 9 = .ok (.iload_n 1, 1) := tb_d tk_X1_given_1 6 (9, .iload_n 1, 1) rfl
theorem dX1_given_10 : decode cX1_given 10 = .ok (.invokevirtual 51, 3) := tb_d tk_X1_given_1 7 (10, .invokevirtual 51, 3) rfl
theorem dX1_given_13 : decode cX1_given 13 = .ok (.iload_n 2, 1) := tb_d tk_X1_given_1 8 (13, .iload_n 2, 1) rfl
theorem dX1_given_14 : decode cX1_given 14 = .ok (.iconst 1, 1) := tb_d tk_X1_given_1 9 (14, .iconst 1, 1) rfl
theorem dX1_given_15 : decode cX1_given 15 = .ok (.iadd, 1) := tb_d tk_X1_given_1 10 (15, .iadd, 1) rfl
theorem dX1_given_16 : decode cX1_given 16 = .ok (.istore_n 3, 1) := tb_d tk_X1_given_1 11 (16, .istore_n 3, 1) rfl
theorem dX1_given_17 : decode cX1_given 17 = .ok (.iload_n 1, 1) := tb_d tk_X1_given_1 12 (17, .iload_n 1, 1) rfl
theorem dX1_given_18 : decode cX1_given 18 = .ok (.tableswitch 185 10 24 #[74, 79, 97, 106, 117, 185, 185, 185, 185, 185, 127, 132, 145, 157, 175], 74) := tb_d tk_X1_given_1 13 (18, .tableswitch 185 10 24 #[74, 79, 97, 106, 117, 185, 185, 185, 185, 185, 127, 132, 145, 157, 175], 74) rfl
theorem dX1_given_92 : decode cX1_given 92 = .ok (.aload_n 0, 1) := tb_d tk_X1_given_1 14 (92, .aload_n 0, 1) rfl
theorem dX1_given_93 : decode cX1_given 93 = .ok (.getfield 25, 3) := tb_d tk_X1_given_1 15 (93, .getfield 25, 3) rfl
theorem dX1_given_96 : decode cX1_given 96 = .ok (.ireturn, 1) := tb_d tk_X1_given_1 16 (96, .ireturn, 1) rfl
theorem dX1_given_97 : decode cX1_given 97 = .ok (.aload_n 0, 1) := tb_d tk_X1_given_1 17 (97, .aload_n 0, 1) rfl
theorem dX1_given_98 : decode cX1_given 98 = .ok (.bipush 10, 2) := tb_d tk_X1_given_1 18 (98, .bipush 10, 2) rfl
theorem dX1_given_100 : decode cX1_given 100 = .ok (.iload_n 3, 1) := tb_d tk_X1_given_1 19 (100, .iload_n 3, 1) rfl
theorem dX1_given_101 : decode cX1_given 101 = .ok (.invokestatic 41, 3) := tb_d tk_X1_given_1 20 (101, .invokestatic 41, 3) rfl
theorem dX1_given_104 : decode cX1_given 104 = .ok (.aload_n 0, 1) := tb_d tk_X1_given_1 21 (104, .aload_n 0, 1) rfl
theorem dX1_given_105 : decode cX1_given 105 = .ok (.aload_n 0, 1) := tb_d tk_X1_given_1 22 (105, .aload_n 0, 1) rfl
theorem dX1_given_106 : decode cX1_given 106 = .ok (.invokevirtual 38, 3) := tb_d tk_X1_given_1 23 (106, .invokevirtual 38, 3) rfl
theorem dX1_given_109 : decode cX1_given 109 = .ok (.iload_n 3, 1) := tb_d tk_X1_given_1 24 (109, .iload_n 3, 1) rfl
theorem dX1_given_110 : decode cX1_given 110 = .ok (.invokestatic 41, 3) := tb_d tk_X1_given_1 25 (110, .invokestatic 41, 3) rfl
theorem dX1_given_113 : decode cX1_given 113 = .ok (.iadd, 1) := tb_d tk_X1_given_1 26 (113, .iadd, 1) rfl
theorem dX1_given_114 : decode cX1_given 114 = .ok (.ireturn, 1) := tb_d tk_X1_given_1 27 (114, .ireturn, 1) rfl
theorem dX1_given_115 : decode cX1_given 115 = .ok (.aload_n 0, 1) := tb_d tk_X1_given_1 28 (115, .aload_n 0, 1) rfl
theorem dX1_given_116 : decode cX1_given 116 = .ok (.bipush 11, 2) := tb_d tk_X1_given_1 29 (116, .bipush 11, 2) rfl
theorem dX1_given_118 : decode cX1_given 118 = .ok (.iload_n 3, 1) := tb_d tk_X1_given_1 30 (118, .iload_n 3, 1) rfl
theorem dX1_given_119 : decode cX1_given 119 = .ok (.invokestatic 41, 3) := tb_d tk_X1_given_1 31 (119, .invokestatic 41, 3) rfl
theorem dX1_given_122 : decode cX1_given 122 = .ok (.ineg, 1) := tb_d tk_X1_given_1 32 (122, .ineg, 1) rfl
theorem dX1_given_123 : decode cX1_given 123 = .ok (.ireturn, 1) := tb_d tk_X1_given_1 33 (123, .ireturn, 1) rfl
theorem dX1_given_124 : decode cX1_given 124 = .ok (.aload_n 0, 1) := tb_d tk_X1_given_1 34 (124, .aload_n 0, 1) rfl
theorem dX1_given_125 : decode cX1_given 125 = .ok (.bipush 10, 2) := tb_d tk_X1_given_1 35 (125, .bipush 10, 2) rfl
theorem dX1_given_127 : decode cX1_given 127 = .ok (.iload_n 3, 1) := tb_d tk_X1_given_1 36 (127, .iload_n 3, 1) rfl
theorem dX1_given_128 : decode cX1_given 128 = .ok (.invokestatic 41, 3) := tb_d tk_X1_given_1 37 (128, .invokestatic 41, 3) rfl
theorem dX1_given_131 : decode cX1_given 131 = .ok (.bipush 100, 2) := tb_d tk_X1_given_1 38 (131, .bipush 100, 2) rfl
theorem dX1_given_133 : decode cX1_given 133 = .ok (.isub, 1) := tb_d tk_X1_given_1 39 (133, .isub, 1) rfl
def tb_X1_given_2 : List (Nat × Instr × Nat) := [(134, .ireturn, 1), (135, .aload_n 0, 1), (136, .bipush 13, 2), (138, .iload_n 3, 1), (139, .invokestatic 41, 3), (142, .iconst 2, 1), (143, .imul, 1), (144, .ireturn, 1), (145, .aload_n 0, 1), (146, .getfield 18, 3), (149, .ireturn, 1), (150, .aload_n 0, 1), (151, .bipush 20, 2), (153, .iload_n 3, 1), (154, .invokestatic 41, 3), (157, .aload_n 0, 1), (158, .getfield 28, 3), (161, .iadd, 1), (162, .ireturn, 1), (163, .aload_n 0, 1), (164, .bipush 21, 2), (166, .iload_n 3, 1), (167, .invokestatic 41, 3), (170, .sipush 1000, 3), (173, .isub, 1), (174, .ireturn, 1), (175, .aload_n 0, 1), (176, .bipush 20, 2), (178, .iload_n 3, 1), (179, .invokestatic 41, 3), (182, .aload_n 0, 1), (183, .aload_n 0, 1), (184, .invokevirtual 34, 3), (187, .iload_n 3, 1), (188, .invokestatic 41, 3), (191, .isub, 1), (192, .ireturn, 1), (193, .aload_n 0, 1), (194, .bipush 21, 2), (196, .iload_n 3, 1)]
set_option maxRecDepth 100000 in
theorem tk_X1_given_2 : (tb_X1_given_2.all fun q => decide (decode cX1_given q.1 = .ok q.2)) = true := by decide +kernel
theorem dX1_given_134 : decode cX1_given 134 = .ok (.ireturn, 1) := tb_d tk_X1_given_2 0 (134, .ireturn, 1) rfl
theorem dX1_given_135 : decode cX1_given 135 = .ok (.aload_n 0, 1) := tb_d tk_X1_given_2 1 (135, .aload_n 0, 1) rfl
theorem dX1_given_136 : decode cX1_given 136 = .ok (.bipush 13, 2) := tb_d tk_X1_given_2 2 (136, .bipush 13, 2) rfl
theorem dX1_given_138 : decode cX1_given 138 = .ok (.iload_n 3, 1) := tb_d tk_X1_given_2 3 (138, .iload_n 3, 1) rfl
theorem dX1_given_139 : decode cX1_given 139 = .ok (.invokestatic 41, 3) := tb_d tk_X1_given_2 4 (139, .invokestatic 41, 3) rfl
theorem dX1_given_142 : decode cX1_given 142 = .ok (.iconst 2, 1) := tb_d tk_X1_given_2 5 (142, .iconst 2, 1) rfl
theorem dX1_given_143 : decode cX1_given 143 = .ok (.imul, 1) := tb_d tk_X1_given_2 6 (143, .imul, 1) rfl
theorem dX1_given_144 : decode cX1_given 144 = .ok (.ireturn, 1) := tb_d tk_X1_given_2 7 (144, .ireturn, 1) rfl
theorem dX1_given_145 : decode cX1_given 145 = .ok (.aload_n 0, 1) := tb_d tk_X1_given_2 8 (145, .aload_n 0, 1) rfl
theorem dX1_given_146 : decode cX1_given 146 = .ok (.getfield 18, 3) := tb_d tk_X1_given_2 9 (146, .getfield 18, 3) rfl
theorem dX1_given_149 : decode cX1_given 149 = .ok (.ireturn, 1) := tb_d tk_X1_given_2 10 (149, .ireturn, 1) rfl
theorem dX1_given_150 : decode cX1_given 150 = .ok (.aload_n 0, 1) := tb_d tk_X1_given_2 11 (150, .aload_n 0, 1) rfl
theorem dX1_given_151 : decode cX1_given 151 = .ok (.bipush 20, 2) := tb_d tk_X1_given_2 12 (151, .bipush 20, 2) rfl
theorem dX1_given_153 : decode cX1_given 153 = .ok (.iload_n 3, 1) := tb_d tk_X1_given_2 13 (153, .iload_n 3, 1) rfl
theorem dX1_given_154 : decode cX1_given 154 = .ok (.invokestatic 41, 3) := tb_d tk_X1_given_2 14 (154, .invokestatic 41, 3) rfl
theorem dX1_given_157 : decode cX1_given 157 = .ok (.aload_n 0, 1) := tb_d tk_X1_given_2 15 (157, .aload_n 0, 1) rfl
theorem dX1_given_158 : decode cX1_given 158 = .ok (.getfield 28, 3) := tb_d tk_X1_given_2 16 (158, .getfield 28, 3) rfl
theorem dX1_given_161 : decode cX1_given 161 = .ok (.iadd, 1) := tb_d tk_X1_given_2 17 (161, .iadd, 1) rfl
theorem dX1_given_162 : decode cX1_given 162 = .ok (.ireturn, 1) := tb_d tk_X1_given_2 18 (162, .ireturn, 1) rfl
theorem dX1_given_163 : decode cX1_given 163 = .ok (.aload_n 0, 1) := tb_d tk_X1_given_2 19 (163, .aload_n 0, 1) rfl
theorem dX1_given_164 : decode cX1_given 164 = .ok (.bipush 21, 2) := tb_d tk_X1_given_2 20 (164, .bipush 21, 2) rfl
theorem dX1_given_166 : decode cX1_given 166 = .ok (.iload_n 3, 1) := tb_d tk_X1_given_2 21 (166, .iload_n 3, 1) rfl
theorem dX1_given_167 : decode cX1_given 167 = .ok (.invokestatic 41, 3) := tb_d tk_X1_given_2 22 (167, .invokestatic 41, 3) rfl
theorem dX1_given_170 : decode cX1_given 170 = .ok (.sipush 1000, 3) := tb_d tk_X1_given_2 23 (170, .sipush 1000, 3) rfl
theorem dX1_given_173 : decode cX1_given 173 = .ok (.isub, 1) := tb_d tk_X1_given_2 24 (173, .isub, 1) rfl
theorem dX1_given_174 : decode cX1_given 174 = .ok (.ireturn, 1) := tb_d tk_X1_given_2 25 (174, .ireturn, 1) rfl
theorem dX1_given_175 : decode cX1_given 175 = .ok (.aload_n 0, 1) := tb_d tk_X1_given_2 26 (175, .aload_n 0, 1) rfl
theorem dX1_given_176 : decode cX1_given 176 = .ok (.bipush 20, 2) := tb_d tk_X1_given_2 27 (176, .bipush 20, 2) rfl
theorem dX1_given_178 : decode cX1_given 178 = .ok (.iload_n 3, 1) := tb_d tk_X1_given_2 28 (178, .iload_n 3, 1) rfl
theorem dX1_given_179 : decode cX1_given 179 = .ok (.invokestatic 41, 3) := tb_d tk_X1_given_2 29 (179, .invokestatic 41, 3) rfl
theorem dX1_given_182 : decode cX1_given 182 = .ok (.aload_n 0, 1) := tb_d tk_X1_given_2 30 (182, .aload_n 0, 1) rfl
theorem dX1_given_183 : decode cX1_given 183 = .ok (.aload_n 0, 1) := tb_d tk_X1_given_2 31 (183, .aload_n 0, 1) rfl
theorem dX1_given_184 : decode cX1_given 184 = .ok (.invokevirtual 34, 3) := tb_d tk_X1_given_2 32 (184, .invokevirtual 34, 3) rfl
theorem dX1_given_187 : decode cX1_given 187 = .ok (.iload_n 3, 1) := tb_d tk_X1_given_2 33 (187, .iload_n 3, 1) rfl
theorem dX1_given_188 : decode cX1_given 188 = .ok (.invokestatic 41, 3) := tb_d tk_X1_given_2 34 (188, .invokestatic 41, 3) rfl
theorem dX1_given_191 : decode cX1_given 191 = .ok (.isub, 1) := tb_d tk_X1_given_2 35 (191, .isub, 1) rfl
theorem dX1_given_192 : decode cX1_given 192 = .ok (.ireturn, 1) := tb_d tk_X1_given_2 36 (192, .ireturn, 1) rfl
theorem dX1_given_193 : decode cX1_given 193 = .ok (.aload_n 0, 1) := tb_d tk_X1_given_2 37 (193, .aload_n 0, 1) rfl
theorem dX1_given_194 : decode cX1_given 194 = .ok (.bipush 21, 2) := tb_d tk_X1_given_2 38 (194, .bipush 21, 2) rfl
theorem dX1_given_196 : decode cX1_given 196 = .ok (.iload_n 3, 1) := tb_d tk_X1_given_2 39 (196, .iload_n 3, 1) rfl
def tb_X1_given_3 : List (Nat × Instr × Nat) := [(197, .invokestatic 41, 3), (200, .iconst 2, 1), (201, .imul, 1), (202, .ireturn, 1), (203, .iconst 0, 1), (204, .ireturn, 1)]
set_option maxRecDepth 100000 in
theorem tk_X1_given_3 : (tb_X1_given_3.all fun q => decide (decode cX1_given q.1 = .ok q.2)) = true := by decide +kernel
theorem dX1_given_197 : decode cX1_given 197 = .ok (.invokestatic 41, 3) := tb_d tk_X1_given_3 0 (197, .invokestatic 41, 3) rfl
theorem dX1_given_200 : decode cX1_given 200 = .ok (.iconst 2, 1) := tb_d tk_X1_given_3 1 (200, .iconst 2, 1) rfl
theorem dX1_given_201 : decode cX1_given 201 = .ok (.imul, 1) := tb_d tk_X1_given_3 2 (201, .imul, 1) rfl
theorem dX1_given_202 : decode cX1_given 202 = .ok (.ireturn, 1) := tb_d tk_X1_given_3 3 (202, .ireturn, 1) rfl
theorem dX1_given_203 : decode cX1_given 203 = .ok (.iconst 0, 1) := tb_d tk_X1_given_3 4 (203, .iconst 0, 1) rfl
theorem dX1_given_204 : decode cX1_given 204 = .ok (.ireturn, 1) := tb_d tk_X1_given_3 5 (204, .ireturn, 1) rfl
set_option maxRecDepth 20000 in
theorem ggX2_init_X4_init : GoodIn wsX2_init wsX4_init := goodIn_r _ [13, 14, 2, 3, 4, 15, 16, 17, 18, 27, 28, 29, 30, 31, 32, 33, 34] (by decide +kernel) (by decide +kernel)
set_option maxRecDepth 20000 in
theorem gX2_init_X4_init_n23 : GoodIn wsX2_init (wsX4_init) := ggX2_init_X4_init
def tb_X2_init_1 : List (Nat × Instr × Nat) := [(0, .aload_n 0, 1), (1, .invokespecial 3, 3), (4, .aload_n 0, 1), (5, .bipush 18, 2), (7, .newarray .int, 2), (9, .putfield 9, 3), (12, .aload_n 0, 1), (13, .iconst 4, 1), (14, .newarray .int, 2), (16, .putfield 15, 3), (19, .aload_n 0, 1), (20, .iconst 4, 1), (21, .newarray .int, 2), (23, .putfield 18, 3), (26, .aload_n 0, 1), (27, .new 21, 3), (30, .dup, 1), (31, .invokespecial 23, 3), (34, .putfield 24, 3), (37, .return_, 1)]
set_option maxRecDepth 100000 in
theorem tk_X2_init_1 : (tb_X2_init_1.all fun q => decide (decode cX2_init q.1 = .ok q.2)) = true := by decide +kernel
theorem dX2_init_0 : decode cX2_init 0 = .ok (.aload_n 0, 1) := tb_d tk_X2_init_1 0 (0, .aload_n 0, 1) rfl
theorem dX2_init_1 : decode cX2_init 1 = .ok (.invokespecial 3, 3) := tb_d tk_X2_init_1 1 (1, .invokespecial 3, 3) rfl
theorem dX2_init_4 : decode cX2_init 4 = .ok (.aload_n 0, 1) := tb_d tk_X2_init_1 2 (4, .aload_n 0, 1) rfl
theorem dX2_init_5 : decode cX2_init 5 = .ok (.bipush 18, 2) := tb_d tk_X2_init_1 3 (5, .bipush 18, 2) rfl
theorem dX2_init_7 : decode cX2_init 7 = .ok (.newarray .int, 2) := tb_d tk_X2_init_1 4 (7, .newarray .int, 2) rfl
theorem dX2_init_9 : decode cX2_init 9 = .ok (.putfield 9, 3) := tb_d tk_X2_init_1 5 (9, .putfield 9, 3) rfl
theorem dX2_init_12 : decode cX2_init 12 = .ok (.aload_n 0, 1) := tb_d tk_X2_init_1 6 (12, .aload_n 0, 1) rfl
theorem dX2_init_13 : decode cX2_init 13 = .ok (.iconst 4, 1) := tb_d tk_X2_init_1 7 (13, .iconst 4, 1) rfl
theorem dX2_init_14 : decode cX2_init 14 = .ok (.newarray .int, 2) := tb_d tk_X2_init_1 8 (14, .newarray .int, 2) rfl
theorem dX2_init_16 : decode cX2_init 16 = .ok (.putfield 15, 3) := tb_d tk_X2_init_1 9 (16, .putfield 15, 3) rfl
theorem dX2_init_19 : decode cX2_init 19 = .ok (.aload_n 0, 1) := tb_d tk_X2_init_1 10 (19, .aload_n 0, 1) rfl
theorem dX2_init_20 : decode cX2_init 20 = .ok (.iconst 4, 1) := tb_d tk_X2_init_1 11 (20, .iconst 4, 1) rfl
theorem dX2_init_21 : decode cX2_init 21 = .ok (.newarray .int, 2) := tb_d tk_X2_init_1 12 (21, .newarray .int, 2) rfl
theorem dX2_init_23 : decode cX2_init 23 = .ok (.putfield 18, 3) := tb_d tk_X2_init_1 13 (23, .putfield 18, 3) rfl
theorem dX2_init_26 : decode cX2_init 26 = .ok (.aload_n 0, 1) := tb_d tk_X2_init_1 14 (26, .aload_n 0, 1) rfl
theorem dX2_init_27 : decode cX2_init 27 = .ok (.new 21, 3) := tb_d tk_X2_init_1 15 (27, .new 21, 3) rfl
theorem dX2_init_30 : decode cX2_init 30 = .ok (.dup, 1) := tb_d tk_X2_init_1 16 (30, .dup, 1) rfl
theorem dX2_init_31 : decode cX2_init 31 = .ok (.invokespecial 23, 3) := tb_d tk_X2_init_1 17 (31, .invokespecial 23, 3) rfl
theorem dX2_init_34 : decode cX2_init 34 = .ok (.putfield 24, 3) := tb_d tk_X2_init_1 18 (34, .putfield 24, 3) rfl
theorem dX2_init_37 : decode cX2_init 37 = .ok (.return_, 1) := tb_d tk_X2_init_1 19 (37, .return_, 1) rfl
set_option maxRecDepth 20000 in
theorem ggX2_become_X4_become : GoodIn wsX2_become wsX4_become := goodIn_r _ [17, 18, 19, 20, 21, 22, 23, 3, 4, 5, 24, 25, 26, 35, 36, 37, 38, 39, 40, 41, 42] (by decide +kernel) (by decide +kernel)
set_option maxRecDepth 20000 in
theorem gX2_become_X4_become : GoodIn wsX2_become (wsV RX2 34 RX4 yX4_become wsX4_become) := goodIn_app (goodIn_of _ (by decide +kernel)) ggX2_become_X4_become
def tb_X2_become_1 : List (Nat × Instr × Nat) := [(0, .aload_n 1, 1), (1, .getfield 9, 3), (4, .iconst 0, 1), (5, .aload_n 0, 1), (6, .getfield 9, 3), (9, .iconst 0, 1), (10, .bipush 18, 2), (12, .invokestatic 28, 3), (15, .aload_n 1, 1), (16, .getfield 15, 3), (19, .iconst 0, 1), (20, .aload_n 0, 1), (21, .getfield 15, 3), (24, .iconst 0, 1), (25, .iconst 4, 1), (26, .invokestatic 28, 3), (29, .aload_n 1, 1), (30, .getfield 18, 3), (33, .iconst 0, 1), (34, .aload_n 0, 1), (35, .getfield 18, 3), (38, .iconst 0, 1), (39, .iconst 4, 1), (40, .invokestatic 28, 3), (43, .aload_n 0, 1), (44, .getfield 24, 3), (47, .aload_n 1, 1), (48, .getfield 24, 3), (51, .invokevirtual 34, 3), (54, .aload_n 0, 1), (55, .aload_n 1, 1), (56, .getfield 38, 3), (59, .putfield 38, 3), (62, .aload_n 0, 1), (63, .aload_n 1, 1), (64, .getfield 42, 3), (67, .putfield 42, 3), (70, .aload_n 0, 1), (71, .aload_n 1, 1), (72, .getfield 45, 3)]
set_option maxRecDepth 100000 in
theorem tk_X2_become_1 : (tb_X2_become_1.all fun q => decide (decode cX2_become q.1 = .ok q.2)) = true := by decide +kernel
theorem dX2_become_0 : decode cX2_become 0 = .ok (.aload_n 1, 1) := tb_d tk_X2_become_1 0 (0, .aload_n 1, 1) rfl
theorem dX2_become_1 : decode cX2_become 1 = .ok (.getfield 9, 3) := tb_d tk_X2_become_1 1 (1, .getfield 9, 3) rfl
theorem dX2_become_4 : decode cX2_become 4 = .ok (.iconst 0, 1) := tb_d tk_X2_become_1 2 (4, .iconst 0, 1) rfl
theorem dX2_become_5 : decode cX2_become 5 = .ok (.aload_n 0, 1) := tb_d tk_X2_become_1 3 (5, .aload_n 0, 1) rfl
theorem dX2_become_6 : decode cX2_become 6 = .ok (.getfield 9, 3) := tb_d tk_X2_become_1 4 (6, .getfield 9, 3) rfl
theorem dX2_become_9 : decode cX2_become 9 = .ok (.iconst 0, 1) := tb_d tk_X2_become_1 5 (9, .iconst 0, 1) rfl
theorem dX2_become_10 : decode cX2_become 10 = .ok (.bipush 18, 2) := tb_d tk_X2_become_1 6 (10, .bipush 18, 2) rfl
theorem dX2_become_12 : decode cX2_become 12 = .ok (.invokestatic 28, 3) := tb_d tk_X2_become_1 7 (12, .invokestatic 28, 3) rfl
theorem dX2_become_15 : decode cX2_become 15 = .ok (.aload_n 1, 1) := tb_d tk_X2_become_1 8 (15, .aload_n 1, 1) rfl
theorem dX2_become_16 : decode cX2_become 16 = .ok (.getfield 15, 3) := tb_d tk_X2_become_1 9 (16, .getfield 15, 3) rfl
theorem dX2_become_19 : decode cX2_become 19 = .ok (.iconst 0, 1) := tb_d tk_X2_become_1 10 (19, .iconst 0, 1) rfl
theorem dX2_become_20 : decode cX2_become 20 = .ok (.aload_n 0, 1) := tb_d tk_X2_become_1 11 (20, .aload_n 0, 1) rfl
theorem dX2_become_21 : decode cX2_become 21 = .ok (.getfield 15, 3) := tb_d tk_X2_become_1 12 (21, .getfield 15, 3) rfl
theorem dX2_become_24 : decode cX2_become 24 = .ok (.iconst 0, 1) := tb_d tk_X2_become_1 13 (24, .iconst 0, 1) rfl
theorem dX2_become_25 : decode cX2_become 25 = .ok (.iconst 4, 1) := tb_d tk_X2_become_1 14 (25, .iconst 4, 1) rfl
theorem dX2_become_26 : decode cX2_become 26 = .ok (.invokestatic 28, 3) := tb_d tk_X2_become_1 15 (26, .invokestatic 28, 3) rfl
theorem dX2_become_29 : decode cX2_become 29 = .ok (.aload_n 1, 1) := tb_d tk_X2_become_1 16 (29, .aload_n 1, 1) rfl
theorem dX2_become_30 : decode cX2_become 30 = .ok (.getfield 18, 3) := tb_d tk_X2_become_1 17 (30, .getfield 18, 3) rfl
theorem dX2_become_33 : decode cX2_become 33 = .ok (.iconst 0, 1) := tb_d tk_X2_become_1 18 (33, .iconst 0, 1) rfl
theorem dX2_become_34 : decode cX2_become 34 = .ok (.aload_n 0, 1) := tb_d tk_X2_become_1 19 (34, .aload_n 0, 1) rfl
theorem dX2_become_35 : decode cX2_become 35 = .ok (.getfield 18, 3) := tb_d tk_X2_become_1 20 (35, .getfield 18, 3) rfl
theorem dX2_become_38 : decode cX2_become 38 = .ok (.iconst 0, 1) := tb_d tk_X2_become_1 21 (38, .iconst 0, 1) rfl
theorem dX2_become_39 : decode cX2_become 39 = .ok (.iconst 4, 1) := tb_d tk_X2_become_1 22 (39, .iconst 4, 1) rfl
theorem dX2_become_40 : decode cX2_become 40 = .ok (.invokestatic 28, 3) := tb_d tk_X2_become_1 23 (40, .invokestatic 28, 3) rfl
theorem dX2_become_43 : decode cX2_become 43 = .ok (.aload_n 0, 1) := tb_d tk_X2_become_1 24 (43, .aload_n 0, 1) rfl
theorem dX2_become_44 : decode cX2_become 44 = .ok (.getfield 24, 3) := tb_d tk_X2_become_1 25 (44, .getfield 24, 3) rfl
theorem dX2_become_47 : decode cX2_become 47 = .ok (.aload_n 1, 1) := tb_d tk_X2_become_1 26 (47, .aload_n 1, 1) rfl
theorem dX2_become_48 : decode cX2_become 48 = .ok (.getfield 24, 3) := tb_d tk_X2_become_1 27 (48, .getfield 24, 3) rfl
theorem dX2_become_51 : decode cX2_become 51 = .ok (.invokevirtual 34, 3) := tb_d tk_X2_become_1 28 (51, .invokevirtual 34, 3) rfl
theorem dX2_become_54 : decode cX2_become 54 = .ok (.aload_n 0, 1) := tb_d tk_X2_become_1 29 (54, .aload_n 0, 1) rfl
theorem dX2_become_55 : decode cX2_become 55 = .ok (.aload_n 1, 1) := tb_d tk_X2_become_1 30 (55, .aload_n 1, 1) rfl
theorem dX2_become_56 : decode cX2_become 56 = .ok (.getfield 38, 3) := tb_d tk_X2_become_1 31 (56, .getfield 38, 3) rfl
theorem dX2_become_59 : decode cX2_become 59 = .ok (.putfield 38, 3) := tb_d tk_X2_become_1 32 (59, .putfield 38, 3) rfl
theorem dX2_become_62 : decode cX2_become 62 = .ok (.aload_n 0, 1) := tb_d tk_X2_become_1 33 (62, .aload_n 0, 1) rfl
theorem dX2_become_63 : decode cX2_become 63 = .ok (.aload_n 1, 1) := tb_d tk_X2_become_1 34 (63, .aload_n 1, 1) rfl
theorem dX2_become_64 : decode cX2_become 64 = .ok (.getfield 42, 3) := tb_d tk_X2_become_1 35 (64, .getfield 42, 3) rfl
theorem dX2_become_67 : decode cX2_become 67 = .ok (.putfield 42, 3) := tb_d tk_X2_become_1 36 (67, .putfield 42, 3) rfl
theorem dX2_become_70 : decode cX2_become 70 = .ok (.aload_n 0, 1) := tb_d tk_X2_become_1 37 (70, .aload_n 0, 1) rfl
theorem dX2_become_71 : decode cX2_become 71 = .ok (.aload_n 1, 1) := tb_d tk_X2_become_1 38 (71, .aload_n 1, 1) rfl
theorem dX2_become_72 : decode cX2_become 72 = .ok (.getfield 45, 3) := tb_d tk_X2_become_1 39 (72, .getfield 45, 3) rfl
def tb_X2_become_2 : List (Nat × Instr × Nat) := [(75, .putfield 45, 3), (78, .aload_n 0, 1), (79, .aload_n 1, 1), (80, .getfield 48, 3), (83, .putfield 48, 3), (86, .return_, 1)]
set_option maxRecDepth 100000 in
theorem tk_X2_become_2 : (tb_X2_become_2.all fun q => decide (decode cX2_become q.1 = .ok q.2)) = true := by decide +kernel
theorem dX2_become_75 : decode cX2_become 75 = .ok (.putfield 45, 3) := tb_d tk_X2_become_2 0 (75, .putfield 45, 3) rfl
theorem dX2_become_78 : decode cX2_become 78 = .ok (.aload_n 0, 1) := tb_d tk_X2_become_2 1 (78, .aload_n 0, 1) rfl
theorem dX2_become_79 : decode cX2_become 79 = .ok (.aload_n 1, 1) := tb_d tk_X2_become_2 2 (79, .aload_n 1, 1) rfl
theorem dX2_become_80 : decode cX2_become 80 = .ok (.getfield 48, 3) := tb_d tk_X2_become_2 3 (80, .getfield 48, 3) rfl
theorem dX2_become_83 : decode cX2_become 83 = .ok (.putfield 48, 3) := tb_d tk_X2_become_2 4 (83, .putfield 48, 3) rfl
theorem dX2_become_86 : decode cX2_become 86 = .ok (.return_, 1) := tb_d tk_X2_become_2 5 (86, .return_, 1) rfl
set_option maxRecDepth 20000 in
theorem ggX2_secretBy_X7_rest : GoodIn wsX2_secretBy wsX7_rest := goodIn_r _ [4] (by decide +kernel) (by decide +kernel)
set_option maxRecDepth 20000 in
theorem gX2_secretBy_X7_rest_n51 : GoodIn wsX2_secretBy (wsX7_rest) := ggX2_secretBy_X7_rest
def tb_X2_secretBy_1 : List (Nat × Instr × Nat) := [(0, .iload 4, 2), (2, .bipush 7, 2), (4, .irem, 1), (5, .iload_n 3, 1), (6, .if_icmp .ne 7, 3), (9, .iconst 0, 1), (10, .goto 16, 3), (13, .iload_n 1, 1), (14, .iload_n 2, 1), (15, .iload 4, 2), (17, .imul, 1), (18, .iadd, 1), (19, .aload_n 0, 1), (20, .getfield 45, 3), (23, .invokestatic 51, 3), (26, .ireturn, 1)]
set_option maxRecDepth 100000 in
theorem tk_X2_secretBy_1 : (tb_X2_secretBy_1.all fun q => decide (decode cX2_secretBy q.1 = .ok q.2)) = true := by decide +kernel
theorem dX2_secretBy_0 : decode cX2_secretBy 0 = .ok (.iload 4, 2) := tb_d tk_X2_secretBy_1 0 (0, .iload 4, 2) rfl
theorem dX2_secretBy_2 : decode cX2_secretBy 2 = .ok (.bipush 7, 2) := tb_d tk_X2_secretBy_1 1 (2, .bipush 7, 2) rfl
theorem dX2_secretBy_4 : decode cX2_secretBy 4 = .ok (.irem, 1) := tb_d tk_X2_secretBy_1 2 (4, .irem, 1) rfl
theorem dX2_secretBy_5 : decode cX2_secretBy 5 = .ok (.iload_n 3, 1) := tb_d tk_X2_secretBy_1 3 (5, .iload_n 3, 1) rfl
theorem dX2_secretBy_6 : decode cX2_secretBy 6 = .ok (.if_icmp .ne 7, 3) := tb_d tk_X2_secretBy_1 4 (6, .if_icmp .ne 7, 3) rfl
theorem dX2_secretBy_9 : decode cX2_secretBy 9 = .ok (.iconst 0, 1) := tb_d tk_X2_secretBy_1 5 (9, .iconst 0, 1) rfl
theorem dX2_secretBy_10 : decode cX2_secretBy 10 = .ok (.goto 16, 3) := tb_d tk_X2_secretBy_1 6 (10, .goto 16, 3) rfl
theorem dX2_secretBy_13 : decode cX2_secretBy 13 = .ok (.iload_n 1, 1) := tb_d tk_X2_secretBy_1 7 (13, .iload_n 1, 1) rfl
theorem dX2_secretBy_14 : decode cX2_secretBy 14 = .ok (.iload_n 2, 1) := tb_d tk_X2_secretBy_1 8 (14, .iload_n 2, 1) rfl
theorem dX2_secretBy_15 : decode cX2_secretBy 15 = .ok (.iload 4, 2) := tb_d tk_X2_secretBy_1 9 (15, .iload 4, 2) rfl
theorem dX2_secretBy_17 : decode cX2_secretBy 17 = .ok (.imul, 1) := tb_d tk_X2_secretBy_1 10 (17, .imul, 1) rfl
theorem dX2_secretBy_18 : decode cX2_secretBy 18 = .ok (.iadd, 1) := tb_d tk_X2_secretBy_1 11 (18, .iadd, 1) rfl
theorem dX2_secretBy_19 : decode cX2_secretBy 19 = .ok (.aload_n 0, 1) := tb_d tk_X2_secretBy_1 12 (19, .aload_n 0, 1) rfl
theorem dX2_secretBy_20 : decode cX2_secretBy 20 = .ok (.getfield 45, 3) := tb_d tk_X2_secretBy_1 13 (20, .getfield 45, 3) rfl
theorem dX2_secretBy_23 : decode cX2_secretBy 23 = .ok (.invokestatic 51, 3) := tb_d tk_X2_secretBy_1 14 (23, .invokestatic 51, 3) rfl
theorem dX2_secretBy_26 : decode cX2_secretBy 26 = .ok (.ireturn, 1) := tb_d tk_X2_secretBy_1 15 (26, .ireturn, 1) rfl
set_option maxRecDepth 20000 in
theorem ggX2_secretIn_X2_secretBy : GoodIn wsX2_secretIn wsX2_secretBy := goodIn_r _ [10, 11, 12, 13, 14, 15, 16, 17, 18, 19, 20, 21, 22] (by decide +kernel) (by decide +kernel)
set_option maxRecDepth 20000 in
theorem gX2_secretIn_X2_secretBy : GoodIn wsX2_secretIn (wsV RX2 61 RX2 yX2_secretBy wsX2_secretBy) := goodIn_app (goodIn_of _ (by decide +kernel)) ggX2_secretIn_X2_secretBy
def tb_X2_secretIn_1 : List (Nat × Instr × Nat) := [(0, .aload_n 0, 1), (1, .aload_n 0, 1), (2, .getfield 24, 3), (5, .getfield 55, 3), (8, .aload_n 0, 1), (9, .getfield 38, 3), (12, .aload_n 0, 1), (13, .getfield 42, 3), (16, .aload_n 0, 1), (17, .getfield 24, 3), (20, .getfield 58, 3), (23, .iload_n 1, 1), (24, .iadd, 1), (25, .invokevirtual 61, 3), (28, .ireturn, 1)]
set_option maxRecDepth 100000 in
theorem tk_X2_secretIn_1 : (tb_X2_secretIn_1.all fun q => decide (decode cX2_secretIn q.1 = .ok q.2)) = true := by decide +kernel
theorem dX2_secretIn_0 : decode cX2_secretIn 0 = .ok (.aload_n 0, 1) := tb_d tk_X2_secretIn_1 0 (0, .aload_n 0, 1) rfl
theorem dX2_secretIn_1 : decode cX2_secretIn 1 = .ok (.aload_n 0, 1) := tb_d tk_X2_secretIn_1 1 (1, .aload_n 0, 1) rfl
theorem dX2_secretIn_2 : decode cX2_secretIn 2 = .ok (.getfield 24, 3) := tb_d tk_X2_secretIn_1 2 (2, .getfield 24, 3) rfl
theorem dX2_secretIn_5 : decode cX2_secretIn 5 = .ok (.getfield 55, 3) := tb_d tk_X2_secretIn_1 3 (5, .getfield 55, 3) rfl
theorem dX2_secretIn_8 : decode cX2_secretIn 8 = .ok (.aload_n 0, 1) := tb_d tk_X2_secretIn_1 4 (8, .aload_n 0, 1) rfl
theorem dX2_secretIn_9 : decode cX2_secretIn 9 = .ok (.getfield 38, 3) := tb_d tk_X2_secretIn_1 5 (9, .getfield 38, 3) rfl
theorem dX2_secretIn_12 : decode cX2_secretIn 12 = .ok (.aload_n 0, 1) := tb_d tk_X2_secretIn_1 6 (12, .aload_n 0, 1) rfl
theorem dX2_secretIn_13 : decode cX2_secretIn 13 = .ok (.getfield 42, 3) := tb_d tk_X2_secretIn_1 7 (13, .getfield 42, 3) rfl
theorem dX2_secretIn_16 : decode cX2_secretIn 16 = .ok (.aload_n 0, 1) := tb_d tk_X2_secretIn_1 8 (16, .aload_n 0, 1) rfl
theorem dX2_secretIn_17 : decode cX2_secretIn 17 = .ok (.getfield 24, 3) := tb_d tk_X2_secretIn_1 9 (17, .getfield 24, 3) rfl
theorem dX2_secretIn_20 : decode cX2_secretIn 20 = .ok (.getfield 58, 3) := tb_d tk_X2_secretIn_1 10 (20, .getfield 58, 3) rfl
theorem dX2_secretIn_23 : decode cX2_secretIn 23 = .ok (.iload_n 1, 1) := tb_d tk_X2_secretIn_1 11 (23, .iload_n 1, 1) rfl
theorem dX2_secretIn_24 : decode cX2_secretIn 24 = .ok (.iadd, 1) := tb_d tk_X2_secretIn_1 12 (24, .iadd, 1) rfl
theorem dX2_secretIn_25 : decode cX2_secretIn 25 = .ok (.invokevirtual 61, 3) := tb_d tk_X2_secretIn_1 13 (25, .invokevirtual 61, 3) rfl
theorem dX2_secretIn_28 : decode cX2_secretIn 28 = .ok (.ireturn, 1) := tb_d tk_X2_secretIn_1 14 (28, .ireturn, 1) rfl
def tb_X2_distance_1 : List (Nat × Instr × Nat) := [(0, .iconst 0, 1), (1, .istore_n 3, 1), (2, .iconst 0, 1), (3, .istore 4, 2), (5, .iload 4, 2), (7, .iconst 3, 1), (8, .if_icmp .ge 37, 3), (11, .aload_n 0, 1), (12, .getfield 9, 3), (15, .iload_n 1, 1), (16, .iconst 3, 1), (17, .imul, 1), (18, .iload 4, 2), (20, .iadd, 1), (21, .iaload, 1), (22, .aload_n 0, 1), (23, .getfield 9, 3), (26, .iload_n 2, 1), (27, .iconst 3, 1), (28, .imul, 1), (29, .iload 4, 2), (31, .iadd, 1), (32, .iaload, 1), (33, .if_icmp .eq 6, 3), (36, .iinc 3 1, 3), (39, .iinc 4 1, 3), (42, .goto (-37), 3), (45, .iload_n 3, 1), (46, .ireturn, 1)]
set_option maxRecDepth 100000 in
theorem tk_X2_distance_1 : (tb_X2_distance_1.all fun q => decide (decode cX2_distance q.1 = .ok q.2)) = true := by decide +kernel
theorem dX2_distance_0 : decode cX2_distance 0 = .ok (.iconst 0, 1) := tb_d tk_X2_distance_1 0 (0, .iconst 0, 1) rfl
theorem dX2_distance_1 : decode cX2_distance 1 = .ok (.istore_n 3, 1) := tb_d tk_X2_distance_1 1 (1, .istore_n 3, 1) rfl
theorem dX2_distance_2 : decode cX2_distance 2 = .ok (.iconst 0, 1) := tb_d tk_X2_distance_1 2 (2, .iconst 0, 1) rfl
theorem dX2_distance_3 : decode cX2_distance 3 = .ok (.istore 4, 2) := tb_d tk_X2_distance_1 3 (3, .istore 4, 2) rfl
theorem dX2_distance_5 : decode cX2_distance 5 = .ok (.iload 4, 2) := tb_d tk_X2_distance_1 4 (5, .iload 4, 2) rfl
theorem dX2_distance_7 : decode cX2_distance 7 = .ok (.iconst 3, 1) := tb_d tk_X2_distance_1 5 (7, .iconst 3, 1) rfl
theorem dX2_distance_8 : decode cX2_distance 8 = .ok (.if_icmp .ge 37, 3) := tb_d tk_X2_distance_1 6 (8, .if_icmp .ge 37, 3) rfl
theorem dX2_distance_11 : decode cX2_distance 11 = .ok (.aload_n 0, 1) := tb_d tk_X2_distance_1 7 (11, .aload_n 0, 1) rfl
theorem dX2_distance_12 : decode cX2_distance 12 = .ok (.getfield 9, 3) := tb_d tk_X2_distance_1 8 (12, .getfield 9, 3) rfl
theorem dX2_distance_15 : decode cX2_distance 15 = .ok (.iload_n 1, 1) := tb_d tk_X2_distance_1 9 (15, .iload_n 1, 1) rfl
theorem dX2_distance_16 : decode cX2_distance 16 = .ok (.iconst 3, 1) := tb_d tk_X2_distance_1 10 (16, .iconst 3, 1) rfl
theorem dX2_distance_17 : decode cX2_distance 17 = .ok (.imul, 1) := tb_d tk_X2_distance_1 11 (17, .imul, 1) rfl
theorem dX2_distance_18 : decode cX2_distance 18 = .ok (.iload 4, 2) := tb_d tk_X2_distance_1 12 (18, .iload 4, 2) rfl
theorem dX2_distance_20 : decode cX2_distance 20 = .ok (.iadd, 1) := tb_d tk_X2_distance_1 13 (20, .iadd, 1) rfl
theorem dX2_distance_21 : decode cX2_distance 21 = .ok (.iaload, 1) := tb_d tk_X2_distance_1 14 (21, .iaload, 1) rfl
theorem dX2_distance_22 : decode cX2_distance 22 = .ok (.aload_n 0, 1) := tb_d tk_X2_distance_1 15 (22, .aload_n 0, 1) rfl
theorem dX2_distance_23 : decode cX2_distance 23 = .ok (.getfield 9, 3) := tb_d tk_X2_distance_1 16 (23, .getfield 9, 3) rfl
theorem dX2_distance_26 : decode cX2_distance 26 = .ok (.iload_n 2, 1) := tb_d tk_X2_distance_1 17 (26, .iload_n 2, 1) rfl
theorem dX2_distance_27 : decode cX2_distance 27 = .ok (.iconst 3, 1) := tb_d tk_X2_distance_1 18 (27, .iconst 3, 1) rfl
theorem dX2_distance_28 : decode cX2_distance 28 = .ok (.imul, 1) := tb_d tk_X2_distance_1 19 (28, .imul, 1) rfl
theorem dX2_distance_29 : decode cX2_distance 29 = .ok (.iload 4, 2) := tb_d tk_X2_distance_1 20 (29, .iload 4, 2) rfl
theorem dX2_distance_31 : decode cX2_distance 31 = .ok (.iadd, 1) := tb_d tk_X2_distance_1 21 (31, .iadd, 1) rfl
theorem dX2_distance_32 : decode cX2_distance 32 = .ok (.iaload, 1) := tb_d tk_X2_distance_1 22 (32, .iaload, 1) rfl
theorem dX2_distance_33 : decode cX2_distance 33 = .ok (.if_icmp .eq 6, 3) := tb_d tk_X2_distance_1 23 (33, .if_icmp .eq 6, 3) rfl
theorem dX2_distance_36 : decode cX2_distance 36 = .ok (.iinc 3 1, 3) := tb_d tk_X2_distance_1 24 (36, .iinc 3 1, 3) rfl
theorem dX2_distance_39 : decode cX2_distance 39 = .ok (.iinc 4 1, 3) := tb_d tk_X2_distance_1 25 (39, .iinc 4 1, 3) rfl
theorem dX2_distance_42 : decode cX2_distance 42 = .ok (.goto (-37), 3) := tb_d tk_X2_distance_1 26 (42, .goto (-37), 3) rfl
theorem dX2_distance_45 : decode cX2_distance 45 = .ok (.iload_n 3, 1) := tb_d tk_X2_distance_1 27 (45, .iload_n 3, 1) rfl
theorem dX2_distance_46 : decode cX2_distance 46 = .ok (.ireturn, 1) := tb_d tk_X2_distance_1 28 (46, .ireturn, 1) rfl
def tb_X2_lips_1 : List (Nat × Instr × Nat) := [(0, .iconst 0, 1), (1, .istore_n 3, 1), (2, .iconst 0, 1), (3, .istore 4, 2), (5, .iload 4, 2), (7, .iconst 3, 1), (8, .if_icmp .ge 41, 3), (11, .aload_n 0, 1), (12, .getfield 9, 3), (15, .iload_n 1, 1), (16, .iconst 3, 1), (17, .imul, 1), (18, .iload 4, 2), (20, .iadd, 1), (21, .iaload, 1), (22, .iconst 5, 1), (23, .irem, 1), (24, .aload_n 0, 1), (25, .getfield 9, 3), (28, .iload_n 2, 1), (29, .iconst 3, 1), (30, .imul, 1), (31, .iload 4, 2), (33, .iadd, 1), (34, .iaload, 1), (35, .iconst 5, 1), (36, .irem, 1), (37, .if_icmp .ne 6, 3), (40, .iinc 3 1, 3), (43, .iinc 4 1, 3), (46, .goto (-41), 3), (49, .iload_n 3, 1), (50, .ireturn, 1)]
set_option maxRecDepth 100000 in
theorem tk_X2_lips_1 : (tb_X2_lips_1.all fun q => decide (decode cX2_lips q.1 = .ok q.2)) = true := by decide +kernel
theorem dX2_lips_0 : decode cX2_lips 0 = .ok (.iconst 0, 1) := tb_d tk_X2_lips_1 0 (0, .iconst 0, 1) rfl
theorem dX2_lips_1 : decode cX2_lips 1 = .ok (.istore_n 3, 1) := tb_d tk_X2_lips_1 1 (1, .istore_n 3, 1) rfl
theorem dX2_lips_2 : decode cX2_lips 2 = .ok (.iconst 0, 1) := tb_d tk_X2_lips_1 2 (2, .iconst 0, 1) rfl
theorem dX2_lips_3 : decode cX2_lips 3 = .ok (.istore 4, 2) := tb_d tk_X2_lips_1 3 (3, .istore 4, 2) rfl
theorem dX2_lips_5 : decode cX2_lips 5 = .ok (.iload 4, 2) := tb_d tk_X2_lips_1 4 (5, .iload 4, 2) rfl
theorem dX2_lips_7 : decode cX2_lips 7 = .ok (.iconst 3, 1) := tb_d tk_X2_lips_1 5 (7, .iconst 3, 1) rfl
theorem dX2_lips_8 : decode cX2_lips 8 = .ok (.if_icmp .ge 41, 3) := tb_d tk_X2_lips_1 6 (8, .if_icmp .ge 41, 3) rfl
theorem dX2_lips_11 : decode cX2_lips 11 = .ok (.aload_n 0, 1) := tb_d tk_X2_lips_1 7 (11, .aload_n 0, 1) rfl
theorem dX2_lips_12 : decode cX2_lips 12 = .ok (.getfield 9, 3) := tb_d tk_X2_lips_1 8 (12, .getfield 9, 3) rfl
theorem dX2_lips_15 : decode cX2_lips 15 = .ok (.iload_n 1, 1) := tb_d tk_X2_lips_1 9 (15, .iload_n 1, 1) rfl
theorem dX2_lips_16 : decode cX2_lips 16 = .ok (.iconst 3, 1) := tb_d tk_X2_lips_1 10 (16, .iconst 3, 1) rfl
theorem dX2_lips_17 : decode cX2_lips 17 = .ok (.imul, 1) := tb_d tk_X2_lips_1 11 (17, .imul, 1) rfl
theorem dX2_lips_18 : decode cX2_lips 18 = .ok (.iload 4, 2) := tb_d tk_X2_lips_1 12 (18, .iload 4, 2) rfl
theorem dX2_lips_20 : decode cX2_lips 20 = .ok (.iadd, 1) := tb_d tk_X2_lips_1 13 (20, .iadd, 1) rfl
theorem dX2_lips_21 : decode cX2_lips 21 = .ok (.iaload, 1) := tb_d tk_X2_lips_1 14 (21, .iaload, 1) rfl
theorem dX2_lips_22 : decode cX2_lips 22 = .ok (.iconst 5, 1) := tb_d tk_X2_lips_1 15 (22, .iconst 5, 1) rfl
theorem dX2_lips_23 : decode cX2_lips 23 = .ok (.irem, 1) := tb_d tk_X2_lips_1 16 (23, .irem, 1) rfl
theorem dX2_lips_24 : decode cX2_lips 24 = .ok (.aload_n 0, 1) := tb_d tk_X2_lips_1 17 (24, .aload_n 0, 1) rfl
theorem dX2_lips_25 : decode cX2_lips 25 = .ok (.getfield 9, 3) := tb_d tk_X2_lips_1 18 (25, .getfield 9, 3) rfl
theorem dX2_lips_28 : decode cX2_lips 28 = .ok (.iload_n 2, 1) := tb_d tk_X2_lips_1 19 (28, .iload_n 2, 1) rfl
theorem dX2_lips_29 : decode cX2_lips 29 = .ok (.iconst 3, 1) := tb_d tk_X2_lips_1 20 (29, .iconst 3, 1) rfl
theorem dX2_lips_30 : decode cX2_lips 30 = .ok (.imul, 1) := tb_d tk_X2_lips_1 21 (30, .imul, 1) rfl
theorem dX2_lips_31 : decode cX2_lips 31 = .ok (.iload 4, 2) := tb_d tk_X2_lips_1 22 (31, .iload 4, 2) rfl
theorem dX2_lips_33 : decode cX2_lips 33 = .ok (.iadd, 1) := tb_d tk_X2_lips_1 23 (33, .iadd, 1) rfl
theorem dX2_lips_34 : decode cX2_lips 34 = .ok (.iaload, 1) := tb_d tk_X2_lips_1 24 (34, .iaload, 1) rfl
theorem dX2_lips_35 : decode cX2_lips 35 = .ok (.iconst 5, 1) := tb_d tk_X2_lips_1 25 (35, .iconst 5, 1) rfl
theorem dX2_lips_36 : decode cX2_lips 36 = .ok (.irem, 1) := tb_d tk_X2_lips_1 26 (36, .irem, 1) rfl
theorem dX2_lips_37 : decode cX2_lips 37 = .ok (.if_icmp .ne 6, 3) := tb_d tk_X2_lips_1 27 (37, .if_icmp .ne 6, 3) rfl
theorem dX2_lips_40 : decode cX2_lips 40 = .ok (.iinc 3 1, 3) := tb_d tk_X2_lips_1 28 (40, .iinc 3 1, 3) rfl
theorem dX2_lips_43 : decode cX2_lips 43 = .ok (.iinc 4 1, 3) := tb_d tk_X2_lips_1 29 (43, .iinc 4 1, 3) rfl
theorem dX2_lips_46 : decode cX2_lips 46 = .ok (.goto (-41), 3) := tb_d tk_X2_lips_1 30 (46, .goto (-41), 3) rfl
theorem dX2_lips_49 : decode cX2_lips 49 = .ok (.iload_n 3, 1) := tb_d tk_X2_lips_1 31 (49, .iload_n 3, 1) rfl
theorem dX2_lips_50 : decode cX2_lips 50 = .ok (.ireturn, 1) := tb_d tk_X2_lips_1 32 (50, .ireturn, 1) rfl
set_option maxRecDepth 20000 in
theorem ggX2_guardOn_X7_rest : GoodIn wsX2_guardOn wsX7_rest := goodIn_r _ [4] (by decide +kernel) (by decide +kernel)
set_option maxRecDepth 20000 in
theorem gX2_guardOn_X7_rest_n51 : GoodIn wsX2_guardOn (wsX7_rest) := ggX2_guardOn_X7_rest
def tb_X2_guardOn_1 : List (Nat × Instr × Nat) := [(0, .iload_n 1, 1), (1, .iload_n 2, 1), (2, .iadd, 1), (3, .aload_n 0, 1), (4, .getfield 48, 3), (7, .invokestatic 51, 3), (10, .ireturn, 1)]
set_option maxRecDepth 100000 in
theorem tk_X2_guardOn_1 : (tb_X2_guardOn_1.all fun q => decide (decode cX2_guardOn q.1 = .ok q.2)) = true := by decide +kernel
theorem dX2_guardOn_0 : decode cX2_guardOn 0 = .ok (.iload_n 1, 1) := tb_d tk_X2_guardOn_1 0 (0, .iload_n 1, 1) rfl
theorem dX2_guardOn_1 : decode cX2_guardOn 1 = .ok (.iload_n 2, 1) := tb_d tk_X2_guardOn_1 1 (1, .iload_n 2, 1) rfl
theorem dX2_guardOn_2 : decode cX2_guardOn 2 = .ok (.iadd, 1) := tb_d tk_X2_guardOn_1 2 (2, .iadd, 1) rfl
theorem dX2_guardOn_3 : decode cX2_guardOn 3 = .ok (.aload_n 0, 1) := tb_d tk_X2_guardOn_1 3 (3, .aload_n 0, 1) rfl
theorem dX2_guardOn_4 : decode cX2_guardOn 4 = .ok (.getfield 48, 3) := tb_d tk_X2_guardOn_1 4 (4, .getfield 48, 3) rfl
theorem dX2_guardOn_7 : decode cX2_guardOn 7 = .ok (.invokestatic 51, 3) := tb_d tk_X2_guardOn_1 5 (7, .invokestatic 51, 3) rfl
theorem dX2_guardOn_10 : decode cX2_guardOn 10 = .ok (.ireturn, 1) := tb_d tk_X2_guardOn_1 6 (10, .ireturn, 1) rfl
def tb_X2_isThere_1 : List (Nat × Instr × Nat) := [(0, .aload_n 0, 1), (1, .getfield 24, 3), (4, .getfield 65, 3), (7, .iload_n 1, 1), (8, .ishr, 1), (9, .iconst 1, 1), (10, .iand, 1), (11, .iconst 1, 1), (12, .if_icmp .ne 7, 3), (15, .iconst 1, 1), (16, .goto 4, 3), (19, .iconst 0, 1), (20, .ireturn, 1)]
set_option maxRecDepth 100000 in
theorem tk_X2_isThere_1 : (tb_X2_isThere_1.all fun q => decide (decode cX2_isThere q.1 = .ok q.2)) = true := by decide +kernel
theorem dX2_isThere_0 : decode cX2_isThere 0 = .ok (.aload_n 0, 1) := tb_d tk_X2_isThere_1 0 (0, .aload_n 0, 1) rfl
theorem dX2_isThere_1 : decode cX2_isThere 1 = .ok (.getfield 24, 3) := tb_d tk_X2_isThere_1 1 (1, .getfield 24, 3) rfl
theorem dX2_isThere_4 : decode cX2_isThere 4 = .ok (.getfield 65, 3) := tb_d tk_X2_isThere_1 2 (4, .getfield 65, 3) rfl
theorem dX2_isThere_7 : decode cX2_isThere 7 = .ok (.iload_n 1, 1) := tb_d tk_X2_isThere_1 3 (7, .iload_n 1, 1) rfl
theorem dX2_isThere_8 : decode cX2_isThere 8 = .ok (.ishr, 1) := tb_d tk_X2_isThere_1 4 (8, .ishr, 1) rfl
theorem dX2_isThere_9 : decode cX2_isThere 9 = .ok (.iconst 1, 1) := tb_d tk_X2_isThere_1 5 (9, .iconst 1, 1) rfl
theorem dX2_isThere_10 : decode cX2_isThere 10 = .ok (.iand, 1) := tb_d tk_X2_isThere_1 6 (10, .iand, 1) rfl
theorem dX2_isThere_11 : decode cX2_isThere 11 = .ok (.iconst 1, 1) := tb_d tk_X2_isThere_1 7 (11, .iconst 1, 1) rfl
theorem dX2_isThere_12 : decode cX2_isThere 12 = .ok (.if_icmp .ne 7, 3) := tb_d tk_X2_isThere_1 8 (12, .if_icmp .ne 7, 3) rfl
theorem dX2_isThere_15 : decode cX2_isThere 15 = .ok (.iconst 1, 1) := tb_d tk_X2_isThere_1 9 (15, .iconst 1, 1) rfl
theorem dX2_isThere_16 : decode cX2_isThere 16 = .ok (.goto 4, 3) := tb_d tk_X2_isThere_1 10 (16, .goto 4, 3) rfl
theorem dX2_isThere_19 : decode cX2_isThere 19 = .ok (.iconst 0, 1) := tb_d tk_X2_isThere_1 11 (19, .iconst 0, 1) rfl
theorem dX2_isThere_20 : decode cX2_isThere 20 = .ok (.ireturn, 1) := tb_d tk_X2_isThere_1 12 (20, .ireturn, 1) rfl
set_option maxRecDepth 20000 in
theorem ggX2_wouldTake_X2_distance : GoodIn wsX2_wouldTake wsX2_distance := goodIn_r _ [5, 6, 11, 12, 13, 14, 15, 16, 17, 18] (by decide +kernel) (by decide +kernel)
set_option maxRecDepth 20000 in
theorem gX2_wouldTake_X2_distance : GoodIn wsX2_wouldTake (wsV RX2 68 RX2 yX2_distance wsX2_distance) := goodIn_app (goodIn_of _ (by decide +kernel)) ggX2_wouldTake_X2_distance
set_option maxRecDepth 20000 in
theorem ggX2_wouldTake_X2_lips : GoodIn wsX2_wouldTake wsX2_lips := goodIn_r _ [10, 6, 11, 12, 13, 14, 15, 16, 17, 18] (by decide +kernel) (by decide +kernel)
set_option maxRecDepth 20000 in
theorem gX2_wouldTake_X2_lips : GoodIn wsX2_wouldTake (wsV RX2 71 RX2 yX2_lips wsX2_lips) := goodIn_app (goodIn_of _ (by decide +kernel)) ggX2_wouldTake_X2_lips
def tb_X2_wouldTake_1 : List (Nat × Instr × Nat) := [(0, .iload_n 1, 1), (1, .tableswitch 120 1 5 #[35, 50, 66, 88, 104], 35), (36, .aload_n 0, 1), (37, .iload_n 2, 1), (38, .iload_n 3, 1), (39, .invokevirtual 68, 3), (42, .ifCond .ne 7, 3), (45, .iconst 1, 1), (46, .goto 4, 3), (49, .iconst 0, 1), (50, .ireturn, 1), (51, .aload_n 0, 1), (52, .iload_n 2, 1), (53, .iload_n 3, 1), (54, .invokevirtual 68, 3), (57, .iconst 1, 1), (58, .if_icmp .gt 7, 3), (61, .iconst 1, 1), (62, .goto 4, 3), (65, .iconst 0, 1), (66, .ireturn, 1), (67, .iload 4, 2), (69, .iconst 2, 1), (70, .irem, 1), (71, .ifCond .ne 16, 3), (74, .aload_n 0, 1), (75, .iload_n 2, 1), (76, .iload_n 3, 1), (77, .invokevirtual 68, 3), (80, .ifCond .ne 7, 3), (83, .iconst 1, 1), (84, .goto 4, 3), (87, .iconst 0, 1), (88, .ireturn, 1), (89, .aload_n 0, 1), (90, .iload_n 2, 1), (91, .iload_n 3, 1), (92, .invokevirtual 71, 3), (95, .iconst 3, 1), (96, .if_icmp .ne 7, 3)]
set_option maxRecDepth 100000 in
theorem tk_X2_wouldTake_1 : (tb_X2_wouldTake_1.all fun q => decide (decode cX2_wouldTake q.1 = .ok q.2)) = true := by decide +kernel
theorem dX2_wouldTake_0 : decode cX2_wouldTake 0 = .ok (.iload_n 1, 1) := tb_d tk_X2_wouldTake_1 0 (0, .iload_n 1, 1) rfl
theorem dX2_wouldTake_1 : decode cX2_wouldTake 1 = .ok (.tableswitch 120 1 5 #[35, 50, 66, 88, 104], 35) := tb_d tk_X2_wouldTake_1 1 (1, .tableswitch 120 1 5 #[35, 50, 66, 88, 104], 35) rfl
theorem dX2_wouldTake_36 : decode cX2_wouldTake 36 = .ok (.aload_n 0, 1) := tb_d tk_X2_wouldTake_1 2 (36, .aload_n 0, 1) rfl
theorem dX2_wouldTake_37 : decode cX2_wouldTake 37 = .ok (.iload_n 2, 1) := tb_d tk_X2_wouldTake_1 3 (37, .iload_n 2, 1) rfl
theorem dX2_wouldTake_38 : decode cX2_wouldTake 38 = .ok (.iload_n 3, 1) := tb_d tk_X2_wouldTake_1 4 (38, .iload_n 3, 1) rfl
theorem dX2_wouldTake_39 : decode cX2_wouldTake 39 = .ok (.invokevirtual 68, 3) := tb_d tk_X2_wouldTake_1 5 (39, .invokevirtual 68, 3) rfl
theorem dX2_wouldTake_42 : decode cX2_wouldTake 42 = .ok (.ifCond .ne 7, 3) := tb_d tk_X2_wouldTake_1 6 (42, .ifCond .ne 7, 3) rfl
theorem dX2_wouldTake_45 : decode cX2_wouldTake 45 = .ok (.iconst 1, 1) := tb_d tk_X2_wouldTake_1 7 (45, .iconst 1, 1) rfl
theorem dX2_wouldTake_46 : decode cX2_wouldTake 46 = .ok (.goto 4, 3) := tb_d tk_X2_wouldTake_1 8 (46, .goto 4, 3) rfl
theorem dX2_wouldTake_49 : decode cX2_wouldTake 49 = .ok (.iconst 0, 1) := tb_d tk_X2_wouldTake_1 9 (49, .iconst 0, 1) rfl
theorem dX2_wouldTake_50 : decode cX2_wouldTake 50 = .ok (.ireturn, 1) := tb_d tk_X2_wouldTake_1 10 (50, .ireturn, 1) rfl
theorem dX2_wouldTake_51 : decode cX2_wouldTake 51 = .ok (.aload_n 0, 1) := tb_d tk_X2_wouldTake_1 11 (51, .aload_n 0, 1) rfl
theorem dX2_wouldTake_52 : decode cX2_wouldTake 52 = .ok (.iload_n 2, 1) := tb_d tk_X2_wouldTake_1 12 (52, .iload_n 2, 1) rfl
theorem dX2_wouldTake_53 : decode cX2_wouldTake 53 = .ok (.iload_n 3, 1) := tb_d tk_X2_wouldTake_1 13 (53, .iload_n 3, 1) rfl
theorem dX2_wouldTake_54 : decode cX2_wouldTake 54 = .ok (.invokevirtual 68, 3) := tb_d tk_X2_wouldTake_1 14 (54, .invokevirtual 68, 3) rfl
theorem dX2_wouldTake_57 : decode cX2_wouldTake 57 = .ok (.iconst 1, 1) := tb_d tk_X2_wouldTake_1 15 (57, .iconst 1, 1) rfl
theorem dX2_wouldTake_58 : decode cX2_wouldTake 58 = .ok (.if_icmp .gt 7, 3) := tb_d tk_X2_wouldTake_1 16 (58, .if_icmp .gt 7, 3) rfl
theorem dX2_wouldTake_61 : decode cX2_wouldTake 61 = .ok (.iconst 1, 1) := tb_d tk_X2_wouldTake_1 17 (61, .iconst 1, 1) rfl
theorem dX2_wouldTake_62 : decode cX2_wouldTake 62 = .ok (.goto 4, 3) := tb_d tk_X2_wouldTake_1 18 (62, .goto 4, 3) rfl
theorem dX2_wouldTake_65 : decode cX2_wouldTake 65 = .ok (.iconst 0, 1) := tb_d tk_X2_wouldTake_1 19 (65, .iconst 0, 1) rfl
theorem dX2_wouldTake_66 : decode cX2_wouldTake 66 = .ok (.ireturn, 1) := tb_d tk_X2_wouldTake_1 20 (66, .ireturn, 1) rfl
theorem dX2_wouldTake_67 : decode cX2_wouldTake 67 = .ok (.iload 4, 2) := tb_d tk_X2_wouldTake_1 21 (67, .iload 4, 2) rfl
theorem dX2_wouldTake_69 : decode cX2_wouldTake 69 = .ok (.iconst 2, 1) := tb_d tk_X2_wouldTake_1 22 (69, .iconst 2, 1) rfl
theorem dX2_wouldTake_70 : decode cX2_wouldTake 70 = .ok (.irem, 1) := tb_d tk_X2_wouldTake_1 23 (70, .irem, 1) rfl
theorem dX2_wouldTake_71 : decode cX2_wouldTake 71 = .ok (.ifCond .ne 16, 3) := tb_d tk_X2_wouldTake_1 24 (71, .ifCond .ne 16, 3) rfl
theorem dX2_wouldTake_74 : decode cX2_wouldTake 74 = .ok (.aload_n 0, 1) := tb_d tk_X2_wouldTake_1 25 (74, .aload_n 0, 1) rfl
theorem dX2_wouldTake_75 : decode cX2_wouldTake 75 = .ok (.iload_n 2, 1) := tb_d tk_X2_wouldTake_1 26 (75, .iload_n 2, 1) rfl
theorem dX2_wouldTake_76 : decode cX2_wouldTake 76 = .ok (.iload_n 3, 1) := tb_d tk_X2_wouldTake_1 27 (76, .iload_n 3, 1) rfl
theorem dX2_wouldTake_77 : decode cX2_wouldTake 77 = .ok (.invokevirtual 68, 3) := tb_d tk_X2_wouldTake_1 28 (77, .invokevirtual 68, 3) rfl
theorem dX2_wouldTake_80 : decode cX2_wouldTake 80 = .ok (.ifCond .ne 7, 3) := tb_d tk_X2_wouldTake_1 29 (80, .ifCond .ne 7, 3) rfl
theorem dX2_wouldTake_83 : decode cX2_wouldTake 83 = .ok (.iconst 1, 1) := tb_d tk_X2_wouldTake_1 30 (83, .iconst 1, 1) rfl
theorem dX2_wouldTake_84 : decode cX2_wouldTake 84 = .ok (.goto 4, 3) := tb_d tk_X2_wouldTake_1 31 (84, .goto 4, 3) rfl
theorem dX2_wouldTake_87 : decode cX2_wouldTake 87 = .ok (.iconst 0, 1) := tb_d tk_X2_wouldTake_1 32 (87, .iconst 0, 1) rfl
theorem dX2_wouldTake_88 : decode cX2_wouldTake 88 = .ok (.ireturn, 1) := tb_d tk_X2_wouldTake_1 33 (88, .ireturn, 1) rfl
theorem dX2_wouldTake_89 : decode cX2_wouldTake 89 = .ok (.aload_n 0, 1) := tb_d tk_X2_wouldTake_1 34 (89, .aload_n 0, 1) rfl
theorem dX2_wouldTake_90 : decode cX2_wouldTake 90 = .ok (.iload_n 2, 1) := tb_d tk_X2_wouldTake_1 35 (90, .iload_n 2, 1) rfl
theorem dX2_wouldTake_91 : decode cX2_wouldTake 91 = .ok (.iload_n 3, 1) := tb_d tk_X2_wouldTake_1 36 (91, .iload_n 3, 1) rfl
theorem dX2_wouldTake_92 : decode cX2_wouldTake 92 = .ok (.invokevirtual 71, 3) := tb_d tk_X2_wouldTake_1 37 (92, .invokevirtual 71, 3) rfl
theorem dX2_wouldTake_95 : decode cX2_wouldTake 95 = .ok (.iconst 3, 1) := tb_d tk_X2_wouldTake_1 38 (95, .iconst 3, 1) rfl
theorem dX2_wouldTake_96 : decode cX2_wouldTake 96 = .ok (.if_icmp .ne 7, 3) := tb_d tk_X2_wouldTake_1 39 (96, .if_icmp .ne 7, 3) rfl
def tb_X2_wouldTake_2 : List (Nat × Instr × Nat) := [(99, .iconst 1, 1), (100, .goto 4, 3), (103, .iconst 0, 1), (104, .ireturn, 1), (105, .aload_n 0, 1), (106, .iload_n 2, 1), (107, .iload_n 3, 1), (108, .invokevirtual 71, 3), (111, .iconst 2, 1), (112, .if_icmp .lt 7, 3), (115, .iconst 1, 1), (116, .goto 4, 3), (119, .iconst 0, 1), (120, .ireturn, 1), (121, .iconst 0, 1), (122, .ireturn, 1)]
set_option maxRecDepth 100000 in
theorem tk_X2_wouldTake_2 : (tb_X2_wouldTake_2.all fun q => decide (decode cX2_wouldTake q.1 = .ok q.2)) = true := by decide +kernel
theorem dX2_wouldTake_99 : decode cX2_wouldTake 99 = .ok (.iconst 1, 1) := tb_d tk_X2_wouldTake_2 0 (99, .iconst 1, 1) rfl
theorem dX2_wouldTake_100 : decode cX2_wouldTake 100 = .ok (.goto 4, 3) := tb_d tk_X2_wouldTake_2 1 (100, .goto 4, 3) rfl
theorem dX2_wouldTake_103 : decode cX2_wouldTake 103 = .ok (.iconst 0, 1) := tb_d tk_X2_wouldTake_2 2 (103, .iconst 0, 1) rfl
theorem dX2_wouldTake_104 : decode cX2_wouldTake 104 = .ok (.ireturn, 1) := tb_d tk_X2_wouldTake_2 3 (104, .ireturn, 1) rfl
theorem dX2_wouldTake_105 : decode cX2_wouldTake 105 = .ok (.aload_n 0, 1) := tb_d tk_X2_wouldTake_2 4 (105, .aload_n 0, 1) rfl
theorem dX2_wouldTake_106 : decode cX2_wouldTake 106 = .ok (.iload_n 2, 1) := tb_d tk_X2_wouldTake_2 5 (106, .iload_n 2, 1) rfl
theorem dX2_wouldTake_107 : decode cX2_wouldTake 107 = .ok (.iload_n 3, 1) := tb_d tk_X2_wouldTake_2 6 (107, .iload_n 3, 1) rfl
theorem dX2_wouldTake_108 : decode cX2_wouldTake 108 = .ok (.invokevirtual 71, 3) := tb_d tk_X2_wouldTake_2 7 (108, .invokevirtual 71, 3) rfl
theorem dX2_wouldTake_111 : decode cX2_wouldTake 111 = .ok (.iconst 2, 1) := tb_d tk_X2_wouldTake_2 8 (111, .iconst 2, 1) rfl
theorem dX2_wouldTake_112 : decode cX2_wouldTake 112 = .ok (.if_icmp .lt 7, 3) := tb_d tk_X2_wouldTake_2 9 (112, .if_icmp .lt 7, 3) rfl
theorem dX2_wouldTake_115 : decode cX2_wouldTake 115 = .ok (.iconst 1, 1) := tb_d tk_X2_wouldTake_2 10 (115, .iconst 1, 1) rfl
theorem dX2_wouldTake_116 : decode cX2_wouldTake 116 = .ok (.goto 4, 3) := tb_d tk_X2_wouldTake_2 11 (116, .goto 4, 3) rfl
theorem dX2_wouldTake_119 : decode cX2_wouldTake 119 = .ok (.iconst 0, 1) := tb_d tk_X2_wouldTake_2 12 (119, .iconst 0, 1) rfl
theorem dX2_wouldTake_120 : decode cX2_wouldTake 120 = .ok (.ireturn, 1) := tb_d tk_X2_wouldTake_2 13 (120, .ireturn, 1) rfl
theorem dX2_wouldTake_121 : decode cX2_wouldTake 121 = .ok (.iconst 0, 1) := tb_d tk_X2_wouldTake_2 14 (121, .iconst 0, 1) rfl
theorem dX2_wouldTake_122 : decode cX2_wouldTake 122 = .ok (.ireturn, 1) := tb_d tk_X2_wouldTake_2 15 (122, .ireturn, 1) rfl
set_option maxRecDepth 20000 in
theorem ggX2_catchesIf_X2_guardOn : GoodIn wsX2_catchesIf wsX2_guardOn := goodIn_r _ [6, 7, 8, 9, 10, 30, 31, 32, 33, 34, 35, 36, 37] (by decide +kernel) (by decide +kernel)
set_option maxRecDepth 20000 in
theorem gX2_catchesIf_X2_guardOn : GoodIn wsX2_catchesIf (wsV RX2 74 RX2 yX2_guardOn wsX2_guardOn) := goodIn_app (goodIn_of _ (by decide +kernel)) ggX2_catchesIf_X2_guardOn
set_option maxRecDepth 20000 in
theorem ggX2_catchesIf_X2_isThere : GoodIn wsX2_catchesIf wsX2_isThere := goodIn_r _ [14, 15, 16, 30, 31, 32, 33, 34, 35, 36, 37, 38, 39, 40, 41, 42, 43, 44, 45] (by decide +kernel) (by decide +kernel)
set_option maxRecDepth 20000 in
theorem gX2_catchesIf_X2_isThere : GoodIn wsX2_catchesIf (wsV RX2 77 RX2 yX2_isThere wsX2_isThere) := goodIn_app (goodIn_of _ (by decide +kernel)) ggX2_catchesIf_X2_isThere
set_option maxRecDepth 20000 in
theorem ggX2_catchesIf_X2_wouldTake : GoodIn wsX2_catchesIf wsX2_wouldTake := goodIn_r _ [20, 21, 22, 23, 5, 24, 25, 26, 27, 28, 29, 30, 31, 32, 33, 34, 35, 36, 37] (by decide +kernel) (by decide +kernel)
set_option maxRecDepth 20000 in
theorem gX2_catchesIf_X2_wouldTake : GoodIn wsX2_catchesIf (wsV RX2 81 RX2 yX2_wouldTake wsX2_wouldTake) := goodIn_app (goodIn_of _ (by decide +kernel)) ggX2_catchesIf_X2_wouldTake
def tb_X2_catchesIf_1 : List (Nat × Instr × Nat) := [(0, .aload_n 0, 1), (1, .iload 4, 2), (3, .iload_n 3, 1), (4, .invokevirtual 74, 3), (7, .istore 5, 2), (9, .aload_n 0, 1), (10, .iload 5, 2), (12, .invokevirtual 77, 3), (15, .ifCond .eq 25, 3), (18, .aload_n 0, 1), (19, .aload_n 0, 1), (20, .getfield 15, 3), (23, .iload 5, 2), (25, .iaload, 1), (26, .iload_n 2, 1), (27, .iload_n 1, 1), (28, .iload 4, 2), (30, .invokevirtual 81, 3), (33, .ifCond .eq 7, 3), (36, .iconst 1, 1), (37, .goto 4, 3), (40, .iconst 0, 1), (41, .ireturn, 1)]
set_option maxRecDepth 100000 in
theorem tk_X2_catchesIf_1 : (tb_X2_catchesIf_1.all fun q => decide (decode cX2_catchesIf q.1 = .ok q.2)) = true := by decide +kernel
theorem dX2_catchesIf_0 : decode cX2_catchesIf 0 = .ok (.aload_n 0, 1) := tb_d tk_X2_catchesIf_1 0 (0, .aload_n 0, 1) rfl
theorem dX2_catchesIf_1 : decode cX2_catchesIf 1 = .ok (.iload 4, 2) := tb_d tk_X2_catchesIf_1 1 (1, .iload 4, 2) rfl
theorem dX2_catchesIf_3 : decode cX2_catchesIf 3 = .ok (.iload_n 3, 1) := tb_d tk_X2_catchesIf_1 2 (3, .iload_n 3, 1) rfl
theorem dX2_catchesIf_4 : decode cX2_catchesIf 4 = .ok (.invokevirtual 74, 3) := tb_d tk_X2_catchesIf_1 3 (4, .invokevirtual 74, 3) rfl
theorem dX2_catchesIf_7 : decode cX2_catchesIf 7 = .ok (.istore 5, 2) := tb_d tk_X2_catchesIf_1 4 (7, .istore 5, 2) rfl
theorem dX2_catchesIf_9 : decode cX2_catchesIf 9 = .ok (.aload_n 0, 1) := tb_d tk_X2_catchesIf_1 5 (9, .aload_n 0, 1) rfl
theorem dX2_catchesIf_10 : decode cX2_catchesIf 10 = .ok (.iload 5, 2) := tb_d tk_X2_catchesIf_1 6 (10, .iload 5, 2) rfl
theorem dX2_catchesIf_12 : decode cX2_catchesIf 12 = .ok (.invokevirtual 77, 3) := tb_d tk_X2_catchesIf_1 7 (12, .invokevirtual 77, 3) rfl
theorem dX2_catchesIf_15 : decode cX2_catchesIf 15 = .ok (.ifCond .eq 25, 3) := tb_d tk_X2_catchesIf_1 8 (15, .ifCond .eq 25, 3) rfl
theorem dX2_catchesIf_18 : decode cX2_catchesIf 18 = .ok (.aload_n 0, 1) := tb_d tk_X2_catchesIf_1 9 (18, .aload_n 0, 1) rfl
theorem dX2_catchesIf_19 : decode cX2_catchesIf 19 = .ok (.aload_n 0, 1) := tb_d tk_X2_catchesIf_1 10 (19, .aload_n 0, 1) rfl
theorem dX2_catchesIf_20 : decode cX2_catchesIf 20 = .ok (.getfield 15, 3) := tb_d tk_X2_catchesIf_1 11 (20, .getfield 15, 3) rfl
theorem dX2_catchesIf_23 : decode cX2_catchesIf 23 = .ok (.iload 5, 2) := tb_d tk_X2_catchesIf_1 12 (23, .iload 5, 2) rfl
theorem dX2_catchesIf_25 : decode cX2_catchesIf 25 = .ok (.iaload, 1) := tb_d tk_X2_catchesIf_1 13 (25, .iaload, 1) rfl
theorem dX2_catchesIf_26 : decode cX2_catchesIf 26 = .ok (.iload_n 2, 1) := tb_d tk_X2_catchesIf_1 14 (26, .iload_n 2, 1) rfl
theorem dX2_catchesIf_27 : decode cX2_catchesIf 27 = .ok (.iload_n 1, 1) := tb_d tk_X2_catchesIf_1 15 (27, .iload_n 1, 1) rfl
theorem dX2_catchesIf_28 : decode cX2_catchesIf 28 = .ok (.iload 4, 2) := tb_d tk_X2_catchesIf_1 16 (28, .iload 4, 2) rfl
theorem dX2_catchesIf_30 : decode cX2_catchesIf 30 = .ok (.invokevirtual 81, 3) := tb_d tk_X2_catchesIf_1 17 (30, .invokevirtual 81, 3) rfl
theorem dX2_catchesIf_33 : decode cX2_catchesIf 33 = .ok (.ifCond .eq 7, 3) := tb_d tk_X2_catchesIf_1 18 (33, .ifCond .eq 7, 3) rfl
theorem dX2_catchesIf_36 : decode cX2_catchesIf 36 = .ok (.iconst 1, 1) := tb_d tk_X2_catchesIf_1 19 (36, .iconst 1, 1) rfl
theorem dX2_catchesIf_37 : decode cX2_catchesIf 37 = .ok (.goto 4, 3) := tb_d tk_X2_catchesIf_1 20 (37, .goto 4, 3) rfl
theorem dX2_catchesIf_40 : decode cX2_catchesIf 40 = .ok (.iconst 0, 1) := tb_d tk_X2_catchesIf_1 21 (40, .iconst 0, 1) rfl
theorem dX2_catchesIf_41 : decode cX2_catchesIf 41 = .ok (.ireturn, 1) := tb_d tk_X2_catchesIf_1 22 (41, .ireturn, 1) rfl
set_option maxRecDepth 20000 in
theorem ggX2_catches_X2_secretIn : GoodIn wsX2_catches wsX2_secretIn := goodIn_r _ [7, 1, 8, 9, 10, 2, 11, 12, 13, 6, 14, 15, 16, 17, 18, 47, 48, 49, 50, 51, 52, 53, 54, 55, 56, 57, 58, 59, 60, 61, 62] (by decide +kernel) (by decide +kernel)
set_option maxRecDepth 20000 in
theorem gX2_catches_X2_secretIn : GoodIn wsX2_catches (wsV RX2 85 RX2 yX2_secretIn wsX2_secretIn) := goodIn_app (goodIn_of _ (by decide +kernel)) ggX2_catches_X2_secretIn
set_option maxRecDepth 20000 in
theorem ggX2_catches_X2_catchesIf : GoodIn wsX2_catches wsX2_catchesIf := goodIn_r _ [22, 23, 24, 25, 26, 6, 27, 28, 16, 17, 18, 29, 30, 31, 32, 1, 33, 34, 35, 36, 37, 38, 39, 40, 41, 42, 43, 44, 45, 46, 47, 48, 49, 50, 51, 52, 53, 54, 55, 56, 57, 58, 59, 60, 61, 62] (by decide +kernel) (by decide +kernel)
set_option maxRecDepth 20000 in
theorem gX2_catches_X2_catchesIf : GoodIn wsX2_catches (wsV RX2 89 RX2 yX2_catchesIf wsX2_catchesIf) := goodIn_app (goodIn_of _ (by decide +kernel)) ggX2_catches_X2_catchesIf
def tb_X2_catches_1 : List (Nat × Instr × Nat) := [(0, .aload_n 0, 1), (1, .aload_n 0, 1), (2, .iload_n 3, 1), (3, .invokevirtual 85, 3), (6, .iload_n 1, 1), (7, .iload_n 2, 1), (8, .aload_n 0, 1), (9, .getfield 24, 3), (12, .getfield 58, 3), (15, .iload_n 3, 1), (16, .iadd, 1), (17, .invokevirtual 89, 3), (20, .ireturn, 1)]
set_option maxRecDepth 100000 in
theorem tk_X2_catches_1 : (tb_X2_catches_1.all fun q => decide (decode cX2_catches q.1 = .ok q.2)) = true := by decide +kernel
theorem dX2_catches_0 : decode cX2_catches 0 = .ok (.aload_n 0, 1) := tb_d tk_X2_catches_1 0 (0, .aload_n 0, 1) rfl
theorem dX2_catches_1 : decode cX2_catches 1 = .ok (.aload_n 0, 1) := tb_d tk_X2_catches_1 1 (1, .aload_n 0, 1) rfl
theorem dX2_catches_2 : decode cX2_catches 2 = .ok (.iload_n 3, 1) := tb_d tk_X2_catches_1 2 (2, .iload_n 3, 1) rfl
theorem dX2_catches_3 : decode cX2_catches 3 = .ok (.invokevirtual 85, 3) := tb_d tk_X2_catches_1 3 (3, .invokevirtual 85, 3) rfl
theorem dX2_catches_6 : decode cX2_catches 6 = .ok (.iload_n 1, 1) := tb_d tk_X2_catches_1 4 (6, .iload_n 1, 1) rfl
theorem dX2_catches_7 : decode cX2_catches 7 = .ok (.iload_n 2, 1) := tb_d tk_X2_catches_1 5 (7, .iload_n 2, 1) rfl
theorem dX2_catches_8 : decode cX2_catches 8 = .ok (.aload_n 0, 1) := tb_d tk_X2_catches_1 6 (8, .aload_n 0, 1) rfl
theorem dX2_catches_9 : decode cX2_catches 9 = .ok (.getfield 24, 3) := tb_d tk_X2_catches_1 7 (9, .getfield 24, 3) rfl
theorem dX2_catches_12 : decode cX2_catches 12 = .ok (.getfield 58, 3) := tb_d tk_X2_catches_1 8 (12, .getfield 58, 3) rfl
theorem dX2_catches_15 : decode cX2_catches 15 = .ok (.iload_n 3, 1) := tb_d tk_X2_catches_1 9 (15, .iload_n 3, 1) rfl
theorem dX2_catches_16 : decode cX2_catches 16 = .ok (.iadd, 1) := tb_d tk_X2_catches_1 10 (16, .iadd, 1) rfl
theorem dX2_catches_17 : decode cX2_catches 17 = .ok (.invokevirtual 89, 3) := tb_d tk_X2_catches_1 11 (17, .invokevirtual 89, 3) rfl
theorem dX2_catches_20 : decode cX2_catches 20 = .ok (.ireturn, 1) := tb_d tk_X2_catches_1 12 (20, .ireturn, 1) rfl
set_option maxRecDepth 20000 in
theorem ggX2_hoursOf_X2_guardOn : GoodIn wsX2_hoursOf wsX2_guardOn := goodIn_r _ [7, 8, 9, 10, 11, 14, 15, 16, 17, 18, 19, 20, 21] (by decide +kernel) (by decide +kernel)
set_option maxRecDepth 20000 in
theorem gX2_hoursOf_X2_guardOn : GoodIn wsX2_hoursOf (wsV RX2 74 RX2 yX2_guardOn wsX2_guardOn) := goodIn_app (goodIn_of _ (by decide +kernel)) ggX2_hoursOf_X2_guardOn
set_option maxRecDepth 20000 in
theorem ggX2_hoursOf_X7_bit : GoodIn wsX2_hoursOf wsX7_bit := goodIn_r _ [13] (by decide +kernel) (by decide +kernel)
set_option maxRecDepth 20000 in
theorem gX2_hoursOf_X7_bit_n92 : GoodIn wsX2_hoursOf (wsX7_bit) := ggX2_hoursOf_X7_bit
def tb_X2_hoursOf_1 : List (Nat × Instr × Nat) := [(0, .iconst 0, 1), (1, .istore_n 2, 1), (2, .iconst 0, 1), (3, .istore_n 3, 1), (4, .iload_n 3, 1), (5, .bipush 6, 2), (7, .if_icmp .ge 38, 3), (10, .iload_n 2, 1), (11, .aload_n 0, 1), (12, .aload_n 0, 1), (13, .getfield 24, 3), (16, .getfield 58, 3), (19, .iload_n 3, 1), (20, .invokevirtual 74, 3), (23, .iload_n 1, 1), (24, .if_icmp .ne 7, 3), (27, .iconst 1, 1), (28, .goto 4, 3), (31, .iconst 0, 1), (32, .invokestatic 92, 3), (35, .iload_n 3, 1), (36, .ishl, 1), (37, .ior, 1), (38, .istore_n 2, 1), (39, .iinc 3 1, 3), (42, .goto (-38), 3), (45, .iload_n 2, 1), (46, .ireturn, 1)]
set_option maxRecDepth 100000 in
theorem tk_X2_hoursOf_1 : (tb_X2_hoursOf_1.all fun q => decide (decode cX2_hoursOf q.1 = .ok q.2)) = true := by decide +kernel
theorem dX2_hoursOf_0 : decode cX2_hoursOf 0 = .ok (.iconst 0, 1) := tb_d tk_X2_hoursOf_1 0 (0, .iconst 0, 1) rfl
theorem dX2_hoursOf_1 : decode cX2_hoursOf 1 = .ok (.istore_n 2, 1) := tb_d tk_X2_hoursOf_1 1 (1, .istore_n 2, 1) rfl
theorem dX2_hoursOf_2 : decode cX2_hoursOf 2 = .ok (.iconst 0, 1) := tb_d tk_X2_hoursOf_1 2 (2, .iconst 0, 1) rfl
theorem dX2_hoursOf_3 : decode cX2_hoursOf 3 = .ok (.istore_n 3, 1) := tb_d tk_X2_hoursOf_1 3 (3, .istore_n 3, 1) rfl
theorem dX2_hoursOf_4 : decode cX2_hoursOf 4 = .ok (.iload_n 3, 1) := tb_d tk_X2_hoursOf_1 4 (4, .iload_n 3, 1) rfl
theorem dX2_hoursOf_5 : decode cX2_hoursOf 5 = .ok (.bipush 6, 2) := tb_d tk_X2_hoursOf_1 5 (5, .bipush 6, 2) rfl
theorem dX2_hoursOf_7 : decode cX2_hoursOf 7 = .ok (.if_icmp .ge 38, 3) := tb_d tk_X2_hoursOf_1 6 (7, .if_icmp .ge 38, 3) rfl
theorem dX2_hoursOf_10 : decode cX2_hoursOf 10 = .ok (.iload_n 2, 1) := tb_d tk_X2_hoursOf_1 7 (10, .iload_n 2, 1) rfl
theorem dX2_hoursOf_11 : decode cX2_hoursOf 11 = .ok (.aload_n 0, 1) := tb_d tk_X2_hoursOf_1 8 (11, .aload_n 0, 1) rfl
theorem dX2_hoursOf_12 : decode cX2_hoursOf 12 = .ok (.aload_n 0, 1) := tb_d tk_X2_hoursOf_1 9 (12, .aload_n 0, 1) rfl
theorem dX2_hoursOf_13 : decode cX2_hoursOf 13 = .ok (.getfield 24, 3) := tb_d tk_X2_hoursOf_1 10 (13, .getfield 24, 3) rfl
theorem dX2_hoursOf_16 : decode cX2_hoursOf 16 = .ok (.getfield 58, 3) := tb_d tk_X2_hoursOf_1 11 (16, .getfield 58, 3) rfl
theorem dX2_hoursOf_19 : decode cX2_hoursOf 19 = .ok (.iload_n 3, 1) := tb_d tk_X2_hoursOf_1 12 (19, .iload_n 3, 1) rfl
theorem dX2_hoursOf_20 : decode cX2_hoursOf 20 = .ok (.invokevirtual 74, 3) := tb_d tk_X2_hoursOf_1 13 (20, .invokevirtual 74, 3) rfl
theorem dX2_hoursOf_23 : decode cX2_hoursOf 23 = .ok (.iload_n 1, 1) := tb_d tk_X2_hoursOf_1 14 (23, .iload_n 1, 1) rfl
theorem dX2_hoursOf_24 : decode cX2_hoursOf 24 = .ok (.if_icmp .ne 7, 3) := tb_d tk_X2_hoursOf_1 15 (24, .if_icmp .ne 7, 3) rfl
theorem dX2_hoursOf_27 : decode cX2_hoursOf 27 = .ok (.iconst 1, 1) := tb_d tk_X2_hoursOf_1 16 (27, .iconst 1, 1) rfl
theorem dX2_hoursOf_28 : decode cX2_hoursOf 28 = .ok (.goto 4, 3) := tb_d tk_X2_hoursOf_1 17 (28, .goto 4, 3) rfl
theorem dX2_hoursOf_31 : decode cX2_hoursOf 31 = .ok (.iconst 0, 1) := tb_d tk_X2_hoursOf_1 18 (31, .iconst 0, 1) rfl
theorem dX2_hoursOf_32 : decode cX2_hoursOf 32 = .ok (.invokestatic 92, 3) := tb_d tk_X2_hoursOf_1 19 (32, .invokestatic 92, 3) rfl
theorem dX2_hoursOf_35 : decode cX2_hoursOf 35 = .ok (.iload_n 3, 1) := tb_d tk_X2_hoursOf_1 20 (35, .iload_n 3, 1) rfl
theorem dX2_hoursOf_36 : decode cX2_hoursOf 36 = .ok (.ishl, 1) := tb_d tk_X2_hoursOf_1 21 (36, .ishl, 1) rfl
theorem dX2_hoursOf_37 : decode cX2_hoursOf 37 = .ok (.ior, 1) := tb_d tk_X2_hoursOf_1 22 (37, .ior, 1) rfl
theorem dX2_hoursOf_38 : decode cX2_hoursOf 38 = .ok (.istore_n 2, 1) := tb_d tk_X2_hoursOf_1 23 (38, .istore_n 2, 1) rfl
theorem dX2_hoursOf_39 : decode cX2_hoursOf 39 = .ok (.iinc 3 1, 3) := tb_d tk_X2_hoursOf_1 24 (39, .iinc 3 1, 3) rfl
theorem dX2_hoursOf_42 : decode cX2_hoursOf 42 = .ok (.goto (-38), 3) := tb_d tk_X2_hoursOf_1 25 (42, .goto (-38), 3) rfl
theorem dX2_hoursOf_45 : decode cX2_hoursOf 45 = .ok (.iload_n 2, 1) := tb_d tk_X2_hoursOf_1 26 (45, .iload_n 2, 1) rfl
theorem dX2_hoursOf_46 : decode cX2_hoursOf 46 = .ok (.ireturn, 1) := tb_d tk_X2_hoursOf_1 27 (46, .ireturn, 1) rfl
set_option maxRecDepth 20000 in
theorem ggX2_wordsIn_X2_catches : GoodIn wsX2_wordsIn wsX2_catches := goodIn_r _ [6, 7, 8, 9, 10, 11, 5, 12, 13, 14, 15, 16, 17, 18, 19, 1, 20, 21, 22, 23, 24, 25, 26, 27, 28, 29, 30, 31, 32, 33, 34, 35, 36, 37, 38, 39, 40, 41, 42, 43, 44, 45, 46, 47, 48, 49, 50, 53, 54, 55, 56, 57, 58, 59, 60, 61, 62, 63, 64, 65, 66, 67, 68] (by decide +kernel) (by decide +kernel)
set_option maxRecDepth 20000 in
theorem gX2_wordsIn_X2_catches : GoodIn wsX2_wordsIn (wsV RX2 96 RX2 yX2_catches wsX2_catches) := goodIn_app (goodIn_of _ (by decide +kernel)) ggX2_wordsIn_X2_catches
set_option maxRecDepth 20000 in
theorem ggX2_wordsIn_X7_bit : GoodIn wsX2_wordsIn wsX7_bit := goodIn_r _ [52] (by decide +kernel) (by decide +kernel)
set_option maxRecDepth 20000 in
theorem gX2_wordsIn_X7_bit_n92 : GoodIn wsX2_wordsIn (wsX7_bit) := ggX2_wordsIn_X7_bit
def tb_X2_wordsIn_1 : List (Nat × Instr × Nat) := [(0, .iconst 0, 1), (1, .istore_n 3, 1), (2, .iconst 0, 1), (3, .istore 4, 2), (5, .iload 4, 2), (7, .aload_n 0, 1), (8, .getfield 45, 3), (11, .if_icmp .ge 34, 3), (14, .iload_n 3, 1), (15, .aload_n 0, 1), (16, .iload 4, 2), (18, .iload_n 1, 1), (19, .iload_n 2, 1), (20, .invokevirtual 96, 3), (23, .ifCond .ne 7, 3), (26, .iconst 1, 1), (27, .goto 4, 3), (30, .iconst 0, 1), (31, .invokestatic 92, 3), (34, .iload 4, 2), (36, .ishl, 1), (37, .ior, 1), (38, .istore_n 3, 1), (39, .iinc 4 1, 3), (42, .goto (-37), 3), (45, .iload_n 3, 1), (46, .ireturn, 1)]
set_option maxRecDepth 100000 in
theorem tk_X2_wordsIn_1 : (tb_X2_wordsIn_1.all fun q => decide (decode cX2_wordsIn q.1 = .ok q.2)) = true := by decide +kernel
theorem dX2_wordsIn_0 : decode cX2_wordsIn 0 = .ok (.iconst 0, 1) := tb_d tk_X2_wordsIn_1 0 (0, .iconst 0, 1) rfl
theorem dX2_wordsIn_1 : decode cX2_wordsIn 1 = .ok (.istore_n 3, 1) := tb_d tk_X2_wordsIn_1 1 (1, .istore_n 3, 1) rfl
theorem dX2_wordsIn_2 : decode cX2_wordsIn 2 = .ok (.iconst 0, 1) := tb_d tk_X2_wordsIn_1 2 (2, .iconst 0, 1) rfl
theorem dX2_wordsIn_3 : decode cX2_wordsIn 3 = .ok (.istore 4, 2) := tb_d tk_X2_wordsIn_1 3 (3, .istore 4, 2) rfl
theorem dX2_wordsIn_5 : decode cX2_wordsIn 5 = .ok (.iload 4, 2) := tb_d tk_X2_wordsIn_1 4 (5, .iload 4, 2) rfl
theorem dX2_wordsIn_7 : decode cX2_wordsIn 7 = .ok (.aload_n 0, 1) := tb_d tk_X2_wordsIn_1 5 (7, .aload_n 0, 1) rfl
theorem dX2_wordsIn_8 : decode cX2_wordsIn 8 = .ok (.getfield 45, 3) := tb_d tk_X2_wordsIn_1 6 (8, .getfield 45, 3) rfl
theorem dX2_wordsIn_11 : decode cX2_wordsIn 11 = .ok (.if_icmp .ge 34, 3) := tb_d tk_X2_wordsIn_1 7 (11, .if_icmp .ge 34, 3) rfl
theorem dX2_wordsIn_14 : decode cX2_wordsIn 14 = .ok (.iload_n 3, 1) := tb_d tk_X2_wordsIn_1 8 (14, .iload_n 3, 1) rfl
theorem dX2_wordsIn_15 : decode cX2_wordsIn 15 = .ok (.aload_n 0, 1) := tb_d tk_X2_wordsIn_1 9 (15, .aload_n 0, 1) rfl
theorem dX2_wordsIn_16 : decode cX2_wordsIn 16 = .ok (.iload 4, 2) := tb_d tk_X2_wordsIn_1 10 (16, .iload 4, 2) rfl
theorem dX2_wordsIn_18 : decode cX2_wordsIn 18 = .ok (.iload_n 1, 1) := tb_d tk_X2_wordsIn_1 11 (18, .iload_n 1, 1) rfl
theorem dX2_wordsIn_19 : decode cX2_wordsIn 19 = .ok (.iload_n 2, 1) := tb_d tk_X2_wordsIn_1 12 (19, .iload_n 2, 1) rfl
theorem dX2_wordsIn_20 : decode cX2_wordsIn 20 = .ok (.invokevirtual 96, 3) := tb_d tk_X2_wordsIn_1 13 (20, .invokevirtual 96, 3) rfl
theorem dX2_wordsIn_23 : decode cX2_wordsIn 23 = .ok (.ifCond .ne 7, 3) := tb_d tk_X2_wordsIn_1 14 (23, .ifCond .ne 7, 3) rfl
theorem dX2_wordsIn_26 : decode cX2_wordsIn 26 = .ok (.iconst 1, 1) := tb_d tk_X2_wordsIn_1 15 (26, .iconst 1, 1) rfl
theorem dX2_wordsIn_27 : decode cX2_wordsIn 27 = .ok (.goto 4, 3) := tb_d tk_X2_wordsIn_1 16 (27, .goto 4, 3) rfl
theorem dX2_wordsIn_30 : decode cX2_wordsIn 30 = .ok (.iconst 0, 1) := tb_d tk_X2_wordsIn_1 17 (30, .iconst 0, 1) rfl
theorem dX2_wordsIn_31 : decode cX2_wordsIn 31 = .ok (.invokestatic 92, 3) := tb_d tk_X2_wordsIn_1 18 (31, .invokestatic 92, 3) rfl
theorem dX2_wordsIn_34 : decode cX2_wordsIn 34 = .ok (.iload 4, 2) := tb_d tk_X2_wordsIn_1 19 (34, .iload 4, 2) rfl
theorem dX2_wordsIn_36 : decode cX2_wordsIn 36 = .ok (.ishl, 1) := tb_d tk_X2_wordsIn_1 20 (36, .ishl, 1) rfl
theorem dX2_wordsIn_37 : decode cX2_wordsIn 37 = .ok (.ior, 1) := tb_d tk_X2_wordsIn_1 21 (37, .ior, 1) rfl
theorem dX2_wordsIn_38 : decode cX2_wordsIn 38 = .ok (.istore_n 3, 1) := tb_d tk_X2_wordsIn_1 22 (38, .istore_n 3, 1) rfl
theorem dX2_wordsIn_39 : decode cX2_wordsIn 39 = .ok (.iinc 4 1, 3) := tb_d tk_X2_wordsIn_1 23 (39, .iinc 4 1, 3) rfl
theorem dX2_wordsIn_42 : decode cX2_wordsIn 42 = .ok (.goto (-37), 3) := tb_d tk_X2_wordsIn_1 24 (42, .goto (-37), 3) rfl
theorem dX2_wordsIn_45 : decode cX2_wordsIn 45 = .ok (.iload_n 3, 1) := tb_d tk_X2_wordsIn_1 25 (45, .iload_n 3, 1) rfl
theorem dX2_wordsIn_46 : decode cX2_wordsIn 46 = .ok (.ireturn, 1) := tb_d tk_X2_wordsIn_1 26 (46, .ireturn, 1) rfl
set_option maxRecDepth 20000 in
theorem ggX2_hoursOpen_X2_wordsIn : GoodIn wsX2_hoursOpen wsX2_wordsIn := goodIn_r _ [5, 6, 7, 8, 9, 4, 10, 11, 12, 13, 14, 15, 16, 17, 18, 19, 20, 21, 22, 23, 24, 25, 26, 27, 28, 29, 30, 31, 32, 33, 34, 35, 36, 37, 38, 39, 40, 41, 42, 43, 44, 45, 46, 47, 48, 49, 50, 51, 52, 53, 54, 55, 56, 57, 58, 59, 60, 61, 62, 63, 64, 65, 66, 67, 68, 69, 70, 71, 72] (by decide +kernel) (by decide +kernel)
set_option maxRecDepth 20000 in
theorem gX2_hoursOpen_X2_wordsIn : GoodIn wsX2_hoursOpen (wsV RX2 100 RX2 yX2_wordsIn wsX2_wordsIn) := goodIn_app (goodIn_of _ (by decide +kernel)) ggX2_hoursOpen_X2_wordsIn
set_option maxRecDepth 20000 in
theorem ggX2_hoursOpen_X7_bit : GoodIn wsX2_hoursOpen wsX7_bit := goodIn_r _ [56] (by decide +kernel) (by decide +kernel)
set_option maxRecDepth 20000 in
theorem gX2_hoursOpen_X7_bit_n92 : GoodIn wsX2_hoursOpen (wsX7_bit) := ggX2_hoursOpen_X7_bit
def tb_X2_hoursOpen_1 : List (Nat × Instr × Nat) := [(0, .iconst 0, 1), (1, .istore_n 3, 1), (2, .iconst 0, 1), (3, .istore 4, 2), (5, .iload 4, 2), (7, .bipush 6, 2), (9, .if_icmp .ge 37, 3), (12, .iload_n 3, 1), (13, .iload_n 1, 1), (14, .aload_n 0, 1), (15, .iload 4, 2), (17, .iload_n 2, 1), (18, .invokevirtual 100, 3), (21, .iconst (-1), 1), (22, .ixor, 1), (23, .iand, 1), (24, .ifCond .ne 7, 3), (27, .iconst 1, 1), (28, .goto 4, 3), (31, .iconst 0, 1), (32, .invokestatic 92, 3), (35, .iload 4, 2), (37, .ishl, 1), (38, .ior, 1), (39, .istore_n 3, 1), (40, .iinc 4 1, 3), (43, .goto (-38), 3), (46, .iload_n 3, 1), (47, .ireturn, 1)]
set_option maxRecDepth 100000 in
theorem tk_X2_hoursOpen_1 : (tb_X2_hoursOpen_1.all fun q => decide (decode cX2_hoursOpen q.1 = .ok q.2)) = true := by decide +kernel
theorem dX2_hoursOpen_0 : decode cX2_hoursOpen 0 = .ok (.iconst 0, 1) := tb_d tk_X2_hoursOpen_1 0 (0, .iconst 0, 1) rfl
theorem dX2_hoursOpen_1 : decode cX2_hoursOpen 1 = .ok (.istore_n 3, 1) := tb_d tk_X2_hoursOpen_1 1 (1, .istore_n 3, 1) rfl
theorem dX2_hoursOpen_2 : decode cX2_hoursOpen 2 = .ok (.iconst 0, 1) := tb_d tk_X2_hoursOpen_1 2 (2, .iconst 0, 1) rfl
theorem dX2_hoursOpen_3 : decode cX2_hoursOpen 3 = .ok (.istore 4, 2) := tb_d tk_X2_hoursOpen_1 3 (3, .istore 4, 2) rfl
theorem dX2_hoursOpen_5 : decode cX2_hoursOpen 5 = .ok (.iload 4, 2) := tb_d tk_X2_hoursOpen_1 4 (5, .iload 4, 2) rfl
theorem dX2_hoursOpen_7 : decode cX2_hoursOpen 7 = .ok (.bipush 6, 2) := tb_d tk_X2_hoursOpen_1 5 (7, .bipush 6, 2) rfl
theorem dX2_hoursOpen_9 : decode cX2_hoursOpen 9 = .ok (.if_icmp .ge 37, 3) := tb_d tk_X2_hoursOpen_1 6 (9, .if_icmp .ge 37, 3) rfl
theorem dX2_hoursOpen_12 : decode cX2_hoursOpen 12 = .ok (.iload_n 3, 1) := tb_d tk_X2_hoursOpen_1 7 (12, .iload_n 3, 1) rfl
theorem dX2_hoursOpen_13 : decode cX2_hoursOpen 13 = .ok (.iload_n 1, 1) := tb_d tk_X2_hoursOpen_1 8 (13, .iload_n 1, 1) rfl
theorem dX2_hoursOpen_14 : decode cX2_hoursOpen 14 = .ok (.aload_n 0, 1) := tb_d tk_X2_hoursOpen_1 9 (14, .aload_n 0, 1) rfl
theorem dX2_hoursOpen_15 : decode cX2_hoursOpen 15 = .ok (.iload 4, 2) := tb_d tk_X2_hoursOpen_1 10 (15, .iload 4, 2) rfl
theorem dX2_hoursOpen_17 : decode cX2_hoursOpen 17 = .ok (.iload_n 2, 1) := tb_d tk_X2_hoursOpen_1 11 (17, .iload_n 2, 1) rfl
theorem dX2_hoursOpen_18 : decode cX2_hoursOpen 18 = .ok (.invokevirtual 100, 3) := tb_d tk_X2_hoursOpen_1 12 (18, .invokevirtual 100, 3) rfl
theorem dX2_hoursOpen_21 : decode cX2_hoursOpen 21 = .ok (.iconst (-1), 1) := tb_d tk_X2_hoursOpen_1 13 (21, .iconst (-1), 1) rfl
theorem dX2_hoursOpen_22 : decode cX2_hoursOpen 22 = .ok (.ixor, 1) := tb_d tk_X2_hoursOpen_1 14 (22, .ixor, 1) rfl
theorem dX2_hoursOpen_23 : decode cX2_hoursOpen 23 = .ok (.iand, 1) := tb_d tk_X2_hoursOpen_1 15 (23, .iand, 1) rfl
theorem dX2_hoursOpen_24 : decode cX2_hoursOpen 24 = .ok (.ifCond .ne 7, 3) := tb_d tk_X2_hoursOpen_1 16 (24, .ifCond .ne 7, 3) rfl
theorem dX2_hoursOpen_27 : decode cX2_hoursOpen 27 = .ok (.iconst 1, 1) := tb_d tk_X2_hoursOpen_1 17 (27, .iconst 1, 1) rfl
theorem dX2_hoursOpen_28 : decode cX2_hoursOpen 28 = .ok (.goto 4, 3) := tb_d tk_X2_hoursOpen_1 18 (28, .goto 4, 3) rfl
theorem dX2_hoursOpen_31 : decode cX2_hoursOpen 31 = .ok (.iconst 0, 1) := tb_d tk_X2_hoursOpen_1 19 (31, .iconst 0, 1) rfl
theorem dX2_hoursOpen_32 : decode cX2_hoursOpen 32 = .ok (.invokestatic 92, 3) := tb_d tk_X2_hoursOpen_1 20 (32, .invokestatic 92, 3) rfl
theorem dX2_hoursOpen_35 : decode cX2_hoursOpen 35 = .ok (.iload 4, 2) := tb_d tk_X2_hoursOpen_1 21 (35, .iload 4, 2) rfl
theorem dX2_hoursOpen_37 : decode cX2_hoursOpen 37 = .ok (.ishl, 1) := tb_d tk_X2_hoursOpen_1 22 (37, .ishl, 1) rfl
theorem dX2_hoursOpen_38 : decode cX2_hoursOpen 38 = .ok (.ior, 1) := tb_d tk_X2_hoursOpen_1 23 (38, .ior, 1) rfl
theorem dX2_hoursOpen_39 : decode cX2_hoursOpen 39 = .ok (.istore_n 3, 1) := tb_d tk_X2_hoursOpen_1 24 (39, .istore_n 3, 1) rfl
theorem dX2_hoursOpen_40 : decode cX2_hoursOpen 40 = .ok (.iinc 4 1, 3) := tb_d tk_X2_hoursOpen_1 25 (40, .iinc 4 1, 3) rfl
theorem dX2_hoursOpen_43 : decode cX2_hoursOpen 43 = .ok (.goto (-38), 3) := tb_d tk_X2_hoursOpen_1 26 (43, .goto (-38), 3) rfl
theorem dX2_hoursOpen_46 : decode cX2_hoursOpen 46 = .ok (.iload_n 3, 1) := tb_d tk_X2_hoursOpen_1 27 (46, .iload_n 3, 1) rfl
theorem dX2_hoursOpen_47 : decode cX2_hoursOpen 47 = .ok (.ireturn, 1) := tb_d tk_X2_hoursOpen_1 28 (47, .ireturn, 1) rfl
set_option maxRecDepth 20000 in
theorem ggX2_nightsUntil_X2_secretIn : GoodIn wsX2_nightsUntil wsX2_secretIn := goodIn_r _ [6, 7, 8, 9, 10, 11, 12, 13, 14, 5, 15, 16, 17, 18, 19, 20, 21, 22, 23, 24, 25, 26, 27, 28, 29, 30, 31, 32, 33, 34, 35] (by decide +kernel) (by decide +kernel)
set_option maxRecDepth 20000 in
theorem gX2_nightsUntil_X2_secretIn : GoodIn wsX2_nightsUntil (wsV RX2 85 RX2 yX2_secretIn wsX2_secretIn) := goodIn_app (goodIn_of _ (by decide +kernel)) ggX2_nightsUntil_X2_secretIn
def tb_X2_nightsUntil_1 : List (Nat × Instr × Nat) := [(0, .iconst 0, 1), (1, .istore_n 2, 1), (2, .iload_n 2, 1), (3, .bipush 60, 2), (5, .if_icmp .gt 20, 3), (8, .aload_n 0, 1), (9, .iload_n 2, 1), (10, .invokevirtual 85, 3), (13, .iload_n 1, 1), (14, .if_icmp .ne 5, 3), (17, .iload_n 2, 1), (18, .ireturn, 1), (19, .iinc 2 1, 3), (22, .goto (-20), 3), (25, .ldc 103, 2), (27, .ireturn, 1)]
set_option maxRecDepth 100000 in
theorem tk_X2_nightsUntil_1 : (tb_X2_nightsUntil_1.all fun q => decide (decode cX2_nightsUntil q.1 = .ok q.2)) = true := by decide +kernel
theorem dX2_nightsUntil_0 : decode cX2_nightsUntil 0 = .ok (.iconst 0, 1) := tb_d tk_X2_nightsUntil_1 0 (0, .iconst 0, 1) rfl
theorem dX2_nightsUntil_1 : decode cX2_nightsUntil 1 = .ok (.istore_n 2, 1) := tb_d tk_X2_nightsUntil_1 1 (1, .istore_n 2, 1) rfl
theorem dX2_nightsUntil_2 : decode cX2_nightsUntil 2 = .ok (.iload_n 2, 1) := tb_d tk_X2_nightsUntil_1 2 (2, .iload_n 2, 1) rfl
theorem dX2_nightsUntil_3 : decode cX2_nightsUntil 3 = .ok (.bipush 60, 2) := tb_d tk_X2_nightsUntil_1 3 (3, .bipush 60, 2) rfl
theorem dX2_nightsUntil_5 : decode cX2_nightsUntil 5 = .ok (.if_icmp .gt 20, 3) := tb_d tk_X2_nightsUntil_1 4 (5, .if_icmp .gt 20, 3) rfl
theorem dX2_nightsUntil_8 : decode cX2_nightsUntil 8 = .ok (.aload_n 0, 1) := tb_d tk_X2_nightsUntil_1 5 (8, .aload_n 0, 1) rfl
theorem dX2_nightsUntil_9 : decode cX2_nightsUntil 9 = .ok (.iload_n 2, 1) := tb_d tk_X2_nightsUntil_1 6 (9, .iload_n 2, 1) rfl
theorem dX2_nightsUntil_10 : decode cX2_nightsUntil 10 = .ok (.invokevirtual 85, 3) := tb_d tk_X2_nightsUntil_1 7 (10, .invokevirtual 85, 3) rfl
theorem dX2_nightsUntil_13 : decode cX2_nightsUntil 13 = .ok (.iload_n 1, 1) := tb_d tk_X2_nightsUntil_1 8 (13, .iload_n 1, 1) rfl
theorem dX2_nightsUntil_14 : decode cX2_nightsUntil 14 = .ok (.if_icmp .ne 5, 3) := tb_d tk_X2_nightsUntil_1 9 (14, .if_icmp .ne 5, 3) rfl
theorem dX2_nightsUntil_17 : decode cX2_nightsUntil 17 = .ok (.iload_n 2, 1) := tb_d tk_X2_nightsUntil_1 10 (17, .iload_n 2, 1) rfl
theorem dX2_nightsUntil_18 : decode cX2_nightsUntil 18 = .ok (.ireturn, 1) := tb_d tk_X2_nightsUntil_1 11 (18, .ireturn, 1) rfl
theorem dX2_nightsUntil_19 : decode cX2_nightsUntil 19 = .ok (.iinc 2 1, 3) := tb_d tk_X2_nightsUntil_1 12 (19, .iinc 2 1, 3) rfl
theorem dX2_nightsUntil_22 : decode cX2_nightsUntil 22 = .ok (.goto (-20), 3) := tb_d tk_X2_nightsUntil_1 13 (22, .goto (-20), 3) rfl
theorem dX2_nightsUntil_25 : decode cX2_nightsUntil 25 = .ok (.ldc 103, 2) := tb_d tk_X2_nightsUntil_1 14 (25, .ldc 103, 2) rfl
theorem dX2_nightsUntil_27 : decode cX2_nightsUntil 27 = .ok (.ireturn, 1) := tb_d tk_X2_nightsUntil_1 15 (27, .ireturn, 1) rfl
set_option maxRecDepth 20000 in
theorem ggX2_hourIn_X2_catches : GoodIn wsX2_hourIn wsX2_catches := goodIn_r _ [6, 7, 8, 9, 10, 11, 5, 12, 13, 14, 15, 16, 17, 18, 19, 20, 21, 22, 23, 24, 25, 26, 27, 28, 29, 30, 31, 32, 33, 34, 35, 36, 37, 38, 39, 40, 41, 42, 43, 44, 45, 46, 47, 48, 49, 50, 51, 52, 53, 54, 55, 56, 57, 58, 59, 60, 61, 62, 63, 64, 65, 66, 67] (by decide +kernel) (by decide +kernel)
set_option maxRecDepth 20000 in
theorem gX2_hourIn_X2_catches : GoodIn wsX2_hourIn (wsV RX2 96 RX2 yX2_catches wsX2_catches) := goodIn_app (goodIn_of _ (by decide +kernel)) ggX2_hourIn_X2_catches
def tb_X2_hourIn_1 : List (Nat × Instr × Nat) := [(0, .iload_n 2, 1), (1, .istore_n 3, 1), (2, .iload_n 3, 1), (3, .bipush 6, 2), (5, .if_icmp .ge 21, 3), (8, .aload_n 0, 1), (9, .iload_n 1, 1), (10, .iload_n 3, 1), (11, .iconst 0, 1), (12, .invokevirtual 96, 3), (15, .ifCond .ne 5, 3), (18, .iload_n 3, 1), (19, .ireturn, 1), (20, .iinc 3 1, 3), (23, .goto (-21), 3), (26, .ldc 103, 2), (28, .ireturn, 1)]
set_option maxRecDepth 100000 in
theorem tk_X2_hourIn_1 : (tb_X2_hourIn_1.all fun q => decide (decode cX2_hourIn q.1 = .ok q.2)) = true := by decide +kernel
theorem dX2_hourIn_0 : decode cX2_hourIn 0 = .ok (.iload_n 2, 1) := tb_d tk_X2_hourIn_1 0 (0, .iload_n 2, 1) rfl
theorem dX2_hourIn_1 : decode cX2_hourIn 1 = .ok (.istore_n 3, 1) := tb_d tk_X2_hourIn_1 1 (1, .istore_n 3, 1) rfl
theorem dX2_hourIn_2 : decode cX2_hourIn 2 = .ok (.iload_n 3, 1) := tb_d tk_X2_hourIn_1 2 (2, .iload_n 3, 1) rfl
theorem dX2_hourIn_3 : decode cX2_hourIn 3 = .ok (.bipush 6, 2) := tb_d tk_X2_hourIn_1 3 (3, .bipush 6, 2) rfl
theorem dX2_hourIn_5 : decode cX2_hourIn 5 = .ok (.if_icmp .ge 21, 3) := tb_d tk_X2_hourIn_1 4 (5, .if_icmp .ge 21, 3) rfl
theorem dX2_hourIn_8 : decode cX2_hourIn 8 = .ok (.aload_n 0, 1) := tb_d tk_X2_hourIn_1 5 (8, .aload_n 0, 1) rfl
theorem dX2_hourIn_9 : decode cX2_hourIn 9 = .ok (.iload_n 1, 1) := tb_d tk_X2_hourIn_1 6 (9, .iload_n 1, 1) rfl
theorem dX2_hourIn_10 : decode cX2_hourIn 10 = .ok (.iload_n 3, 1) := tb_d tk_X2_hourIn_1 7 (10, .iload_n 3, 1) rfl
theorem dX2_hourIn_11 : decode cX2_hourIn 11 = .ok (.iconst 0, 1) := tb_d tk_X2_hourIn_1 8 (11, .iconst 0, 1) rfl
theorem dX2_hourIn_12 : decode cX2_hourIn 12 = .ok (.invokevirtual 96, 3) := tb_d tk_X2_hourIn_1 9 (12, .invokevirtual 96, 3) rfl
theorem dX2_hourIn_15 : decode cX2_hourIn 15 = .ok (.ifCond .ne 5, 3) := tb_d tk_X2_hourIn_1 10 (15, .ifCond .ne 5, 3) rfl
theorem dX2_hourIn_18 : decode cX2_hourIn 18 = .ok (.iload_n 3, 1) := tb_d tk_X2_hourIn_1 11 (18, .iload_n 3, 1) rfl
theorem dX2_hourIn_19 : decode cX2_hourIn 19 = .ok (.ireturn, 1) := tb_d tk_X2_hourIn_1 12 (19, .ireturn, 1) rfl
theorem dX2_hourIn_20 : decode cX2_hourIn 20 = .ok (.iinc 3 1, 3) := tb_d tk_X2_hourIn_1 13 (20, .iinc 3 1, 3) rfl
theorem dX2_hourIn_23 : decode cX2_hourIn 23 = .ok (.goto (-21), 3) := tb_d tk_X2_hourIn_1 14 (23, .goto (-21), 3) rfl
theorem dX2_hourIn_26 : decode cX2_hourIn 26 = .ok (.ldc 103, 2) := tb_d tk_X2_hourIn_1 15 (26, .ldc 103, 2) rfl
theorem dX2_hourIn_28 : decode cX2_hourIn 28 = .ok (.ireturn, 1) := tb_d tk_X2_hourIn_1 16 (28, .ireturn, 1) rfl
set_option maxRecDepth 20000 in
theorem ggX2_guardsAgainst_X2_wordsIn : GoodIn wsX2_guardsAgainst wsX2_wordsIn := goodIn_r _ [7, 8, 9, 10, 11, 6, 12, 1, 2, 13, 14, 15, 16, 17, 18, 19, 20, 21, 22, 23, 24, 25, 26, 27, 28, 29, 30, 31, 32, 33, 34, 35, 36, 37, 38, 39, 40, 41, 42, 43, 44, 45, 46, 47, 48, 49, 50, 51, 52, 53, 54, 55, 56, 57, 58, 59, 60, 61, 62, 63, 64, 65, 66, 67, 68, 69, 70, 71, 72] (by decide +kernel) (by decide +kernel)
set_option maxRecDepth 20000 in
theorem gX2_guardsAgainst_X2_wordsIn : GoodIn wsX2_guardsAgainst (wsV RX2 100 RX2 yX2_wordsIn wsX2_wordsIn) := goodIn_app (goodIn_of _ (by decide +kernel)) ggX2_guardsAgainst_X2_wordsIn
set_option maxRecDepth 20000 in
theorem ggX2_guardsAgainst_X2_guardOn : GoodIn wsX2_guardsAgainst wsX2_guardOn := goodIn_r _ [35, 36, 24, 25, 26, 57, 58, 59, 60, 61, 62, 63, 64] (by decide +kernel) (by decide +kernel)
set_option maxRecDepth 20000 in
theorem gX2_guardsAgainst_X2_guardOn : GoodIn wsX2_guardsAgainst (wsV RX2 74 RX2 yX2_guardOn wsX2_guardOn) := goodIn_app (goodIn_of _ (by decide +kernel)) ggX2_guardsAgainst_X2_guardOn
def tb_X2_guardsAgainst_1 : List (Nat × Instr × Nat) := [(0, .iconst 0, 1), (1, .istore_n 3, 1), (2, .iconst 0, 1), (3, .istore 4, 2), (5, .iload 4, 2), (7, .bipush 6, 2), (9, .if_icmp .ge 43, 3), (12, .iload_n 1, 1), (13, .aload_n 0, 1), (14, .iload 4, 2), (16, .iload_n 2, 1), (17, .invokevirtual 100, 3), (20, .iconst (-1), 1), (21, .ixor, 1), (22, .iand, 1), (23, .ifCond .eq 23, 3), (26, .iload_n 3, 1), (27, .iconst 1, 1), (28, .aload_n 0, 1), (29, .aload_n 0, 1), (30, .getfield 24, 3), (33, .getfield 58, 3), (36, .iload_n 2, 1), (37, .iadd, 1), (38, .iload 4, 2), (40, .invokevirtual 74, 3), (43, .ishl, 1), (44, .ior, 1), (45, .istore_n 3, 1), (46, .iinc 4 1, 3), (49, .goto (-44), 3), (52, .iload_n 3, 1), (53, .ireturn, 1)]
set_option maxRecDepth 100000 in
theorem tk_X2_guardsAgainst_1 : (tb_X2_guardsAgainst_1.all fun q => decide (decode cX2_guardsAgainst q.1 = .ok q.2)) = true := by decide +kernel
theorem dX2_guardsAgainst_0 : decode cX2_guardsAgainst 0 = .ok (.iconst 0, 1) := tb_d tk_X2_guardsAgainst_1 0 (0, .iconst 0, 1) rfl
theorem dX2_guardsAgainst_1 : decode cX2_guardsAgainst 1 = .ok (.istore_n 3, 1) := tb_d tk_X2_guardsAgainst_1 1 (1, .istore_n 3, 1) rfl
theorem dX2_guardsAgainst_2 : decode cX2_guardsAgainst 2 = .ok (.iconst 0, 1) := tb_d tk_X2_guardsAgainst_1 2 (2, .iconst 0, 1) rfl
theorem dX2_guardsAgainst_3 : decode cX2_guardsAgainst 3 = .ok (.istore 4, 2) := tb_d tk_X2_guardsAgainst_1 3 (3, .istore 4, 2) rfl
theorem dX2_guardsAgainst_5 : decode cX2_guardsAgainst 5 = .ok (.iload 4, 2) := tb_d tk_X2_guardsAgainst_1 4 (5, .iload 4, 2) rfl
theorem dX2_guardsAgainst_7 : decode cX2_guardsAgainst 7 = .ok (.bipush 6, 2) := tb_d tk_X2_guardsAgainst_1 5 (7, .bipush 6, 2) rfl
theorem dX2_guardsAgainst_9 : decode cX2_guardsAgainst 9 = .ok (.if_icmp .ge 43, 3) := tb_d tk_X2_guardsAgainst_1 6 (9, .if_icmp .ge 43, 3) rfl
theorem dX2_guardsAgainst_12 : decode cX2_guardsAgainst 12 = .ok (.iload_n 1, 1) := tb_d tk_X2_guardsAgainst_1 7 (12, .iload_n 1, 1) rfl
theorem dX2_guardsAgainst_13 : decode cX2_guardsAgainst 13 = .ok (.aload_n 0, 1) := tb_d tk_X2_guardsAgainst_1 8 (13, .aload_n 0, 1) rfl
theorem dX2_guardsAgainst_14 : decode cX2_guardsAgainst 14 = .ok (.iload 4, 2) := tb_d tk_X2_guardsAgainst_1 9 (14, .iload 4, 2) rfl
theorem dX2_guardsAgainst_16 : decode cX2_guardsAgainst 16 = .ok (.iload_n 2, 1) := tb_d tk_X2_guardsAgainst_1 10 (16, .iload_n 2, 1) rfl
theorem dX2_guardsAgainst_17 : decode cX2_guardsAgainst 17 = .ok (.invokevirtual 100, 3) := tb_d tk_X2_guardsAgainst_1 11 (17, .invokevirtual 100, 3) rfl
theorem dX2_guardsAgainst_20 : decode cX2_guardsAgainst 20 = .ok (.iconst (-1), 1) := tb_d tk_X2_guardsAgainst_1 12 (20, .iconst (-1), 1) rfl
theorem dX2_guardsAgainst_21 : decode cX2_guardsAgainst 21 = .ok (.ixor, 1) := tb_d tk_X2_guardsAgainst_1 13 (21, .ixor, 1) rfl
theorem dX2_guardsAgainst_22 : decode cX2_guardsAgainst 22 = .ok (.iand, 1) := tb_d tk_X2_guardsAgainst_1 14 (22, .iand, 1) rfl
theorem dX2_guardsAgainst_23 : decode cX2_guardsAgainst 23 = .ok (.ifCond .eq 23, 3) := tb_d tk_X2_guardsAgainst_1 15 (23, .ifCond .eq 23, 3) rfl
theorem dX2_guardsAgainst_26 : decode cX2_guardsAgainst 26 = .ok (.iload_n 3, 1) := tb_d tk_X2_guardsAgainst_1 16 (26, .iload_n 3, 1) rfl
theorem dX2_guardsAgainst_27 : decode cX2_guardsAgainst 27 = .ok (.iconst 1, 1) := tb_d tk_X2_guardsAgainst_1 17 (27, .iconst 1, 1) rfl
theorem dX2_guardsAgainst_28 : decode cX2_guardsAgainst 28 = .ok (.aload_n 0, 1) := tb_d tk_X2_guardsAgainst_1 18 (28, .aload_n 0, 1) rfl
theorem dX2_guardsAgainst_29 : decode cX2_guardsAgainst 29 = .ok (.aload_n 0, 1) := tb_d tk_X2_guardsAgainst_1 19 (29, .aload_n 0, 1) rfl
theorem dX2_guardsAgainst_30 : decode cX2_guardsAgainst 30 = .ok (.getfield 24, 3) := tb_d tk_X2_guardsAgainst_1 20 (30, .getfield 24, 3) rfl
theorem dX2_guardsAgainst_33 : decode cX2_guardsAgainst 33 = .ok (.getfield 58, 3) := tb_d tk_X2_guardsAgainst_1 21 (33, .getfield 58, 3) rfl
theorem dX2_guardsAgainst_36 : decode cX2_guardsAgainst 36 = .ok (.iload_n 2, 1) := tb_d tk_X2_guardsAgainst_1 22 (36, .iload_n 2, 1) rfl
theorem dX2_guardsAgainst_37 : decode cX2_guardsAgainst 37 = .ok (.iadd, 1) := tb_d tk_X2_guardsAgainst_1 23 (37, .iadd, 1) rfl
theorem dX2_guardsAgainst_38 : decode cX2_guardsAgainst 38 = .ok (.iload 4, 2) := tb_d tk_X2_guardsAgainst_1 24 (38, .iload 4, 2) rfl
theorem dX2_guardsAgainst_40 : decode cX2_guardsAgainst 40 = .ok (.invokevirtual 74, 3) := tb_d tk_X2_guardsAgainst_1 25 (40, .invokevirtual 74, 3) rfl
theorem dX2_guardsAgainst_43 : decode cX2_guardsAgainst 43 = .ok (.ishl, 1) := tb_d tk_X2_guardsAgainst_1 26 (43, .ishl, 1) rfl
theorem dX2_guardsAgainst_44 : decode cX2_guardsAgainst 44 = .ok (.ior, 1) := tb_d tk_X2_guardsAgainst_1 27 (44, .ior, 1) rfl
theorem dX2_guardsAgainst_45 : decode cX2_guardsAgainst 45 = .ok (.istore_n 3, 1) := tb_d tk_X2_guardsAgainst_1 28 (45, .istore_n 3, 1) rfl
theorem dX2_guardsAgainst_46 : decode cX2_guardsAgainst 46 = .ok (.iinc 4 1, 3) := tb_d tk_X2_guardsAgainst_1 29 (46, .iinc 4 1, 3) rfl
theorem dX2_guardsAgainst_49 : decode cX2_guardsAgainst 49 = .ok (.goto (-44), 3) := tb_d tk_X2_guardsAgainst_1 30 (49, .goto (-44), 3) rfl
theorem dX2_guardsAgainst_52 : decode cX2_guardsAgainst 52 = .ok (.iload_n 3, 1) := tb_d tk_X2_guardsAgainst_1 31 (52, .iload_n 3, 1) rfl
theorem dX2_guardsAgainst_53 : decode cX2_guardsAgainst 53 = .ok (.ireturn, 1) := tb_d tk_X2_guardsAgainst_1 32 (53, .ireturn, 1) rfl
def tb_X2_feeOf_1 : List (Nat × Instr × Nat) := [(0, .iconst 0, 1), (1, .istore_n 2, 1), (2, .iconst 0, 1), (3, .istore_n 3, 1), (4, .iload_n 3, 1), (5, .aload_n 0, 1), (6, .getfield 48, 3), (9, .if_icmp .ge 24, 3), (12, .iload_n 2, 1), (13, .iload_n 1, 1), (14, .iload_n 3, 1), (15, .ishr, 1), (16, .iconst 1, 1), (17, .iand, 1), (18, .aload_n 0, 1), (19, .getfield 18, 3), (22, .iload_n 3, 1), (23, .iaload, 1), (24, .imul, 1), (25, .iadd, 1), (26, .istore_n 2, 1), (27, .iinc 3 1, 3), (30, .goto (-26), 3), (33, .iload_n 2, 1), (34, .ireturn, 1)]
set_option maxRecDepth 100000 in
theorem tk_X2_feeOf_1 : (tb_X2_feeOf_1.all fun q => decide (decode cX2_feeOf q.1 = .ok q.2)) = true := by decide +kernel
theorem dX2_feeOf_0 : decode cX2_feeOf 0 = .ok (.iconst 0, 1) := tb_d tk_X2_feeOf_1 0 (0, .iconst 0, 1) rfl
theorem dX2_feeOf_1 : decode cX2_feeOf 1 = .ok (.istore_n 2, 1) := tb_d tk_X2_feeOf_1 1 (1, .istore_n 2, 1) rfl
theorem dX2_feeOf_2 : decode cX2_feeOf 2 = .ok (.iconst 0, 1) := tb_d tk_X2_feeOf_1 2 (2, .iconst 0, 1) rfl
theorem dX2_feeOf_3 : decode cX2_feeOf 3 = .ok (.istore_n 3, 1) := tb_d tk_X2_feeOf_1 3 (3, .istore_n 3, 1) rfl
theorem dX2_feeOf_4 : decode cX2_feeOf 4 = .ok (.iload_n 3, 1) := tb_d tk_X2_feeOf_1 4 (4, .iload_n 3, 1) rfl
theorem dX2_feeOf_5 : decode cX2_feeOf 5 = .ok (.aload_n 0, 1) := tb_d tk_X2_feeOf_1 5 (5, .aload_n 0, 1) rfl
theorem dX2_feeOf_6 : decode cX2_feeOf 6 = .ok (.getfield 48, 3) := tb_d tk_X2_feeOf_1 6 (6, .getfield 48, 3) rfl
theorem dX2_feeOf_9 : decode cX2_feeOf 9 = .ok (.if_icmp .ge 24, 3) := tb_d tk_X2_feeOf_1 7 (9, .if_icmp .ge 24, 3) rfl
theorem dX2_feeOf_12 : decode cX2_feeOf 12 = .ok (.iload_n 2, 1) := tb_d tk_X2_feeOf_1 8 (12, .iload_n 2, 1) rfl
theorem dX2_feeOf_13 : decode cX2_feeOf 13 = .ok (.iload_n 1, 1) := tb_d tk_X2_feeOf_1 9 (13, .iload_n 1, 1) rfl
theorem dX2_feeOf_14 : decode cX2_feeOf 14 = .ok (.iload_n 3, 1) := tb_d tk_X2_feeOf_1 10 (14, .iload_n 3, 1) rfl
theorem dX2_feeOf_15 : decode cX2_feeOf 15 = .ok (.ishr, 1) := tb_d tk_X2_feeOf_1 11 (15, .ishr, 1) rfl
theorem dX2_feeOf_16 : decode cX2_feeOf 16 = .ok (.iconst 1, 1) := tb_d tk_X2_feeOf_1 12 (16, .iconst 1, 1) rfl
theorem dX2_feeOf_17 : decode cX2_feeOf 17 = .ok (.iand, 1) := tb_d tk_X2_feeOf_1 13 (17, .iand, 1) rfl
theorem dX2_feeOf_18 : decode cX2_feeOf 18 = .ok (.aload_n 0, 1) := tb_d tk_X2_feeOf_1 14 (18, .aload_n 0, 1) rfl
theorem dX2_feeOf_19 : decode cX2_feeOf 19 = .ok (.getfield 18, 3) := tb_d tk_X2_feeOf_1 15 (19, .getfield 18, 3) rfl
theorem dX2_feeOf_22 : decode cX2_feeOf 22 = .ok (.iload_n 3, 1) := tb_d tk_X2_feeOf_1 16 (22, .iload_n 3, 1) rfl
theorem dX2_feeOf_23 : decode cX2_feeOf 23 = .ok (.iaload, 1) := tb_d tk_X2_feeOf_1 17 (23, .iaload, 1) rfl
theorem dX2_feeOf_24 : decode cX2_feeOf 24 = .ok (.imul, 1) := tb_d tk_X2_feeOf_1 18 (24, .imul, 1) rfl
theorem dX2_feeOf_25 : decode cX2_feeOf 25 = .ok (.iadd, 1) := tb_d tk_X2_feeOf_1 19 (25, .iadd, 1) rfl
theorem dX2_feeOf_26 : decode cX2_feeOf 26 = .ok (.istore_n 2, 1) := tb_d tk_X2_feeOf_1 20 (26, .istore_n 2, 1) rfl
theorem dX2_feeOf_27 : decode cX2_feeOf 27 = .ok (.iinc 3 1, 3) := tb_d tk_X2_feeOf_1 21 (27, .iinc 3 1, 3) rfl
theorem dX2_feeOf_30 : decode cX2_feeOf 30 = .ok (.goto (-26), 3) := tb_d tk_X2_feeOf_1 22 (30, .goto (-26), 3) rfl
theorem dX2_feeOf_33 : decode cX2_feeOf 33 = .ok (.iload_n 2, 1) := tb_d tk_X2_feeOf_1 23 (33, .iload_n 2, 1) rfl
theorem dX2_feeOf_34 : decode cX2_feeOf 34 = .ok (.ireturn, 1) := tb_d tk_X2_feeOf_1 24 (34, .ireturn, 1) rfl
set_option maxRecDepth 20000 in
theorem ggX2_nearestTo_X2_distance : GoodIn wsX2_nearestTo wsX2_distance := goodIn_r _ [7, 8, 9, 10, 11, 12, 13, 14, 15, 16] (by decide +kernel) (by decide +kernel)
set_option maxRecDepth 20000 in
theorem gX2_nearestTo_X2_distance : GoodIn wsX2_nearestTo (wsV RX2 68 RX2 yX2_distance wsX2_distance) := goodIn_app (goodIn_of _ (by decide +kernel)) ggX2_nearestTo_X2_distance
def tb_X2_nearestTo_1 : List (Nat × Instr × Nat) := [(0, .ldc 103, 2), (2, .istore_n 2, 1), (3, .iconst 4, 1), (4, .istore_n 3, 1), (5, .iconst 0, 1), (6, .istore 4, 2), (8, .iload 4, 2), (10, .aload_n 0, 1), (11, .getfield 45, 3), (14, .if_icmp .ge 37, 3), (17, .iload 4, 2), (19, .iload_n 1, 1), (20, .if_icmp .eq 25, 3), (23, .aload_n 0, 1), (24, .iload_n 1, 1), (25, .iload 4, 2), (27, .invokevirtual 68, 3), (30, .iload_n 3, 1), (31, .if_icmp .ge 14, 3), (34, .iload 4, 2), (36, .istore_n 2, 1), (37, .aload_n 0, 1), (38, .iload_n 1, 1), (39, .iload 4, 2), (41, .invokevirtual 68, 3), (44, .istore_n 3, 1), (45, .iinc 4 1, 3), (48, .goto (-40), 3), (51, .iload_n 2, 1), (52, .ireturn, 1)]
set_option maxRecDepth 100000 in
theorem tk_X2_nearestTo_1 : (tb_X2_nearestTo_1.all fun q => decide (decode cX2_nearestTo q.1 = .ok q.2)) = true := by decide +kernel
theorem dX2_nearestTo_0 : decode cX2_nearestTo 0 = .ok (.ldc 103, 2) := tb_d tk_X2_nearestTo_1 0 (0, .ldc 103, 2) rfl
theorem dX2_nearestTo_2 : decode cX2_nearestTo 2 = .ok (.istore_n 2, 1) := tb_d tk_X2_nearestTo_1 1 (2, .istore_n 2, 1) rfl
theorem dX2_nearestTo_3 : decode cX2_nearestTo 3 = .ok (.iconst 4, 1) := tb_d tk_X2_nearestTo_1 2 (3, .iconst 4, 1) rfl
theorem dX2_nearestTo_4 : decode cX2_nearestTo 4 = .ok (.istore_n 3, 1) := tb_d tk_X2_nearestTo_1 3 (4, .istore_n 3, 1) rfl
theorem dX2_nearestTo_5 : decode cX2_nearestTo 5 = .ok (.iconst 0, 1) := tb_d tk_X2_nearestTo_1 4 (5, .iconst 0, 1) rfl
theorem dX2_nearestTo_6 : decode cX2_nearestTo 6 = .ok (.istore 4, 2) := tb_d tk_X2_nearestTo_1 5 (6, .istore 4, 2) rfl
theorem dX2_nearestTo_8 : decode cX2_nearestTo 8 = .ok (.iload 4, 2) := tb_d tk_X2_nearestTo_1 6 (8, .iload 4, 2) rfl
theorem dX2_nearestTo_10 : decode cX2_nearestTo 10 = .ok (.aload_n 0, 1) := tb_d tk_X2_nearestTo_1 7 (10, .aload_n 0, 1) rfl
theorem dX2_nearestTo_11 : decode cX2_nearestTo 11 = .ok (.getfield 45, 3) := tb_d tk_X2_nearestTo_1 8 (11, .getfield 45, 3) rfl
theorem dX2_nearestTo_14 : decode cX2_nearestTo 14 = .ok (.if_icmp .ge 37, 3) := tb_d tk_X2_nearestTo_1 9 (14, .if_icmp .ge 37, 3) rfl
theorem dX2_nearestTo_17 : decode cX2_nearestTo 17 = .ok (.iload 4, 2) := tb_d tk_X2_nearestTo_1 10 (17, .iload 4, 2) rfl
theorem dX2_nearestTo_19 : decode cX2_nearestTo 19 = .ok (.iload_n 1, 1) := tb_d tk_X2_nearestTo_1 11 (19, .iload_n 1, 1) rfl
theorem dX2_nearestTo_20 : decode cX2_nearestTo 20 = .ok (.if_icmp .eq 25, 3) := tb_d tk_X2_nearestTo_1 12 (20, .if_icmp .eq 25, 3) rfl
theorem dX2_nearestTo_23 : decode cX2_nearestTo 23 = .ok (.aload_n 0, 1) := tb_d tk_X2_nearestTo_1 13 (23, .aload_n 0, 1) rfl
theorem dX2_nearestTo_24 : decode cX2_nearestTo 24 = .ok (.iload_n 1, 1) := tb_d tk_X2_nearestTo_1 14 (24, .iload_n 1, 1) rfl
theorem dX2_nearestTo_25 : decode cX2_nearestTo 25 = .ok (.iload 4, 2) := tb_d tk_X2_nearestTo_1 15 (25, .iload 4, 2) rfl
theorem dX2_nearestTo_27 : decode cX2_nearestTo 27 = .ok (.invokevirtual 68, 3) := tb_d tk_X2_nearestTo_1 16 (27, .invokevirtual 68, 3) rfl
theorem dX2_nearestTo_30 : decode cX2_nearestTo 30 = .ok (.iload_n 3, 1) := tb_d tk_X2_nearestTo_1 17 (30, .iload_n 3, 1) rfl
theorem dX2_nearestTo_31 : decode cX2_nearestTo 31 = .ok (.if_icmp .ge 14, 3) := tb_d tk_X2_nearestTo_1 18 (31, .if_icmp .ge 14, 3) rfl
theorem dX2_nearestTo_34 : decode cX2_nearestTo 34 = .ok (.iload 4, 2) := tb_d tk_X2_nearestTo_1 19 (34, .iload 4, 2) rfl
theorem dX2_nearestTo_36 : decode cX2_nearestTo 36 = .ok (.istore_n 2, 1) := tb_d tk_X2_nearestTo_1 20 (36, .istore_n 2, 1) rfl
theorem dX2_nearestTo_37 : decode cX2_nearestTo 37 = .ok (.aload_n 0, 1) := tb_d tk_X2_nearestTo_1 21 (37, .aload_n 0, 1) rfl
theorem dX2_nearestTo_38 : decode cX2_nearestTo 38 = .ok (.iload_n 1, 1) := tb_d tk_X2_nearestTo_1 22 (38, .iload_n 1, 1) rfl
theorem dX2_nearestTo_39 : decode cX2_nearestTo 39 = .ok (.iload 4, 2) := tb_d tk_X2_nearestTo_1 23 (39, .iload 4, 2) rfl
theorem dX2_nearestTo_41 : decode cX2_nearestTo 41 = .ok (.invokevirtual 68, 3) := tb_d tk_X2_nearestTo_1 24 (41, .invokevirtual 68, 3) rfl
theorem dX2_nearestTo_44 : decode cX2_nearestTo 44 = .ok (.istore_n 3, 1) := tb_d tk_X2_nearestTo_1 25 (44, .istore_n 3, 1) rfl
theorem dX2_nearestTo_45 : decode cX2_nearestTo 45 = .ok (.iinc 4 1, 3) := tb_d tk_X2_nearestTo_1 26 (45, .iinc 4 1, 3) rfl
theorem dX2_nearestTo_48 : decode cX2_nearestTo 48 = .ok (.goto (-40), 3) := tb_d tk_X2_nearestTo_1 27 (48, .goto (-40), 3) rfl
theorem dX2_nearestTo_51 : decode cX2_nearestTo 51 = .ok (.iload_n 2, 1) := tb_d tk_X2_nearestTo_1 28 (51, .iload_n 2, 1) rfl
theorem dX2_nearestTo_52 : decode cX2_nearestTo 52 = .ok (.ireturn, 1) := tb_d tk_X2_nearestTo_1 29 (52, .ireturn, 1) rfl
def tb_X3_init_1 : List (Nat × Instr × Nat) := [(0, .aload_n 0, 1), (1, .invokespecial 3, 3), (4, .aload_n 0, 1), (5, .bipush 36, 2), (7, .newarray .int, 2), (9, .putfield 9, 3), (12, .aload_n 0, 1), (13, .bipush 64, 2), (15, .newarray .int, 2), (17, .putfield 15, 3), (20, .return_, 1)]
set_option maxRecDepth 100000 in
theorem tk_X3_init_1 : (tb_X3_init_1.all fun q => decide (decode cX3_init q.1 = .ok q.2)) = true := by decide +kernel
theorem dX3_init_0 : decode cX3_init 0 = .ok (.aload_n 0, 1) := tb_d tk_X3_init_1 0 (0, .aload_n 0, 1) rfl
theorem dX3_init_1 : decode cX3_init 1 = .ok (.invokespecial 3, 3) := tb_d tk_X3_init_1 1 (1, .invokespecial 3, 3) rfl
theorem dX3_init_4 : decode cX3_init 4 = .ok (.aload_n 0, 1) := tb_d tk_X3_init_1 2 (4, .aload_n 0, 1) rfl
theorem dX3_init_5 : decode cX3_init 5 = .ok (.bipush 36, 2) := tb_d tk_X3_init_1 3 (5, .bipush 36, 2) rfl
theorem dX3_init_7 : decode cX3_init 7 = .ok (.newarray .int, 2) := tb_d tk_X3_init_1 4 (7, .newarray .int, 2) rfl
theorem dX3_init_9 : decode cX3_init 9 = .ok (.putfield 9, 3) := tb_d tk_X3_init_1 5 (9, .putfield 9, 3) rfl
theorem dX3_init_12 : decode cX3_init 12 = .ok (.aload_n 0, 1) := tb_d tk_X3_init_1 6 (12, .aload_n 0, 1) rfl
theorem dX3_init_13 : decode cX3_init 13 = .ok (.bipush 64, 2) := tb_d tk_X3_init_1 7 (13, .bipush 64, 2) rfl
theorem dX3_init_15 : decode cX3_init 15 = .ok (.newarray .int, 2) := tb_d tk_X3_init_1 8 (15, .newarray .int, 2) rfl
theorem dX3_init_17 : decode cX3_init 17 = .ok (.putfield 15, 3) := tb_d tk_X3_init_1 9 (17, .putfield 15, 3) rfl
theorem dX3_init_20 : decode cX3_init 20 = .ok (.return_, 1) := tb_d tk_X3_init_1 10 (20, .return_, 1) rfl
set_option maxRecDepth 20000 in
theorem ggX3_agreeing_X3_agreesWithTries : GoodIn wsX3_agreeing wsX3_agreesWithTries := goodIn_r _ [5, 6, 7, 8, 9, 10, 11, 12, 13, 14, 15, 16, 17, 18, 19, 20, 21, 22, 23, 24, 25, 26, 27, 28, 29, 30, 31, 32, 33, 34, 35, 36, 37, 38, 39, 40, 41, 42, 43, 44, 45, 46] (by decide +kernel) (by decide +kernel)
set_option maxRecDepth 20000 in
theorem gX3_agreeing_X3_agreesWithTries : GoodIn wsX3_agreeing (va_wsS RX3 24 yX3_agreesWithTries wsX3_agreesWithTries) := goodIn_app (goodIn_of _ (by decide +kernel)) ggX3_agreeing_X3_agreesWithTries
set_option maxRecDepth 20000 in
theorem ggX3_agreeing_X7_bit : GoodIn wsX3_agreeing wsX7_bit := goodIn_r _ [30] (by decide +kernel) (by decide +kernel)
set_option maxRecDepth 20000 in
theorem gX3_agreeing_X7_bit_n28 : GoodIn wsX3_agreeing (wsX7_bit) := ggX3_agreeing_X7_bit
def tb_X3_agreeing_1 : List (Nat × Instr × Nat) := [(0, .iconst 0, 1), (1, .istore_n 1, 1), (2, .iconst 0, 1), (3, .istore_n 2, 1), (4, .iload_n 2, 1), (5, .aload_n 0, 1), (6, .getfield 18, 3), (9, .if_icmp .ge 22, 3), (12, .iload_n 1, 1), (13, .aload_n 0, 1), (14, .iload_n 2, 1), (15, .invokestatic 24, 3), (18, .invokestatic 28, 3), (21, .iload_n 2, 1), (22, .ishl, 1), (23, .ior, 1), (24, .istore_n 1, 1), (25, .iinc 2 1, 3), (28, .goto (-24), 3), (31, .iload_n 1, 1), (32, .ireturn, 1)]
set_option maxRecDepth 100000 in
theorem tk_X3_agreeing_1 : (tb_X3_agreeing_1.all fun q => decide (decode cX3_agreeing q.1 = .ok q.2)) = true := by decide +kernel
theorem dX3_agreeing_0 : decode cX3_agreeing 0 = .ok (.iconst 0, 1) := tb_d tk_X3_agreeing_1 0 (0, .iconst 0, 1) rfl
theorem dX3_agreeing_1 : decode cX3_agreeing 1 = .ok (.istore_n 1, 1) := tb_d tk_X3_agreeing_1 1 (1, .istore_n 1, 1) rfl
theorem dX3_agreeing_2 : decode cX3_agreeing 2 = .ok (.iconst 0, 1) := tb_d tk_X3_agreeing_1 2 (2, .iconst 0, 1) rfl
theorem dX3_agreeing_3 : decode cX3_agreeing 3 = .ok (.istore_n 2, 1) := tb_d tk_X3_agreeing_1 3 (3, .istore_n 2, 1) rfl
theorem dX3_agreeing_4 : decode cX3_agreeing 4 = .ok (.iload_n 2, 1) := tb_d tk_X3_agreeing_1 4 (4, .iload_n 2, 1) rfl
theorem dX3_agreeing_5 : decode cX3_agreeing 5 = .ok (.aload_n 0, 1) := tb_d tk_X3_agreeing_1 5 (5, .aload_n 0, 1) rfl
theorem dX3_agreeing_6 : decode cX3_agreeing 6 = .ok (.getfield 18, 3) := tb_d tk_X3_agreeing_1 6 (6, .getfield 18, 3) rfl
theorem dX3_agreeing_9 : decode cX3_agreeing 9 = .ok (.if_icmp .ge 22, 3) := tb_d tk_X3_agreeing_1 7 (9, .if_icmp .ge 22, 3) rfl
theorem dX3_agreeing_12 : decode cX3_agreeing 12 = .ok (.iload_n 1, 1) := tb_d tk_X3_agreeing_1 8 (12, .iload_n 1, 1) rfl
theorem dX3_agreeing_13 : decode cX3_agreeing 13 = .ok (.aload_n 0, 1) := tb_d tk_X3_agreeing_1 9 (13, .aload_n 0, 1) rfl
theorem dX3_agreeing_14 : decode cX3_agreeing 14 = .ok (.iload_n 2, 1) := tb_d tk_X3_agreeing_1 10 (14, .iload_n 2, 1) rfl
theorem dX3_agreeing_15 : decode cX3_agreeing 15 = .ok (.invokestatic 24, 3) := tb_d tk_X3_agreeing_1 11 (15, .invokestatic 24, 3) rfl
theorem dX3_agreeing_18 : decode cX3_agreeing 18 = .ok (.invokestatic 28, 3) := tb_d tk_X3_agreeing_1 12 (18, .invokestatic 28, 3) rfl
theorem dX3_agreeing_21 : decode cX3_agreeing 21 = .ok (.iload_n 2, 1) := tb_d tk_X3_agreeing_1 13 (21, .iload_n 2, 1) rfl
theorem dX3_agreeing_22 : decode cX3_agreeing 22 = .ok (.ishl, 1) := tb_d tk_X3_agreeing_1 14 (22, .ishl, 1) rfl
theorem dX3_agreeing_23 : decode cX3_agreeing 23 = .ok (.ior, 1) := tb_d tk_X3_agreeing_1 15 (23, .ior, 1) rfl
theorem dX3_agreeing_24 : decode cX3_agreeing 24 = .ok (.istore_n 1, 1) := tb_d tk_X3_agreeing_1 16 (24, .istore_n 1, 1) rfl
theorem dX3_agreeing_25 : decode cX3_agreeing 25 = .ok (.iinc 2 1, 3) := tb_d tk_X3_agreeing_1 17 (25, .iinc 2 1, 3) rfl
theorem dX3_agreeing_28 : decode cX3_agreeing 28 = .ok (.goto (-24), 3) := tb_d tk_X3_agreeing_1 18 (28, .goto (-24), 3) rfl
theorem dX3_agreeing_31 : decode cX3_agreeing 31 = .ok (.iload_n 1, 1) := tb_d tk_X3_agreeing_1 19 (31, .iload_n 1, 1) rfl
theorem dX3_agreeing_32 : decode cX3_agreeing 32 = .ok (.ireturn, 1) := tb_d tk_X3_agreeing_1 20 (32, .ireturn, 1) rfl
set_option maxRecDepth 20000 in
theorem ggX3_agreesWithTries_X2_wouldTake : GoodIn wsX3_agreesWithTries wsX2_wouldTake := goodIn_r _ [13, 14, 15, 16, 12, 17, 18, 19, 20, 21, 22, 26, 27, 28, 29, 30, 31, 32, 33] (by decide +kernel) (by decide +kernel)
set_option maxRecDepth 20000 in
theorem gX3_agreesWithTries_X2_wouldTake : GoodIn wsX3_agreesWithTries (wsV RX3 56 RX2 yX2_wouldTake wsX2_wouldTake) := goodIn_app (goodIn_of _ (by decide +kernel)) ggX3_agreesWithTries_X2_wouldTake
set_option maxRecDepth 20000 in
theorem ggX3_agreesWithTries_X7_bit : GoodIn wsX3_agreesWithTries wsX7_bit := goodIn_r _ [25] (by decide +kernel) (by decide +kernel)
set_option maxRecDepth 20000 in
theorem gX3_agreesWithTries_X7_bit_n28 : GoodIn wsX3_agreesWithTries (wsX7_bit) := ggX3_agreesWithTries_X7_bit
def tb_X3_agreesWithTries_1 : List (Nat × Instr × Nat) := [(0, .aload_n 0, 1), (1, .getfield 32, 3), (4, .astore_n 2, 1), (5, .iconst 0, 1), (6, .istore_n 3, 1), (7, .iload_n 3, 1), (8, .aload_n 2, 1), (9, .getfield 36, 3), (12, .if_icmp .ge 79, 3), (15, .aload_n 2, 1), (16, .getfield 41, 3), (19, .iload_n 3, 1), (20, .iaload, 1), (21, .istore 4, 2), (23, .iload 4, 2), (25, .ifCond .lt 41, 3), (28, .iload 4, 2), (30, .aload_n 0, 1), (31, .getfield 44, 3), (34, .if_icmp .ge 32, 3), (37, .aload_n 0, 1), (38, .aload_n 0, 1), (39, .getfield 47, 3), (42, .iload 4, 2), (44, .iaload, 1), (45, .aload_n 2, 1), (46, .getfield 50, 3), (49, .iload_n 3, 1), (50, .iaload, 1), (51, .iload_n 1, 1), (52, .aload_n 2, 1), (53, .getfield 53, 3), (56, .invokevirtual 56, 3), (59, .ifCond .eq 7, 3), (62, .iconst 1, 1), (63, .goto 4, 3), (66, .iconst 0, 1), (67, .istore 5, 2), (69, .iload 5, 2), (71, .invokestatic 28, 3)]
set_option maxRecDepth 100000 in
theorem tk_X3_agreesWithTries_1 : (tb_X3_agreesWithTries_1.all fun q => decide (decode cX3_agreesWithTries q.1 = .ok q.2)) = true := by decide +kernel
theorem dX3_agreesWithTries_0 : decode cX3_agreesWithTries 0 = .ok (.aload_n 0, 1) := tb_d tk_X3_agreesWithTries_1 0 (0, .aload_n 0, 1) rfl
theorem dX3_agreesWithTries_1 : decode cX3_agreesWithTries 1 = .ok (.getfield 32, 3) := tb_d tk_X3_agreesWithTries_1 1 (1, .getfield 32, 3) rfl
theorem dX3_agreesWithTries_4 : decode cX3_agreesWithTries 4 = .ok (.astore_n 2, 1) := tb_d tk_X3_agreesWithTries_1 2 (4, .astore_n 2, 1) rfl
theorem dX3_agreesWithTries_5 : decode cX3_agreesWithTries 5 = .ok (.iconst 0, 1) := tb_d tk_X3_agreesWithTries_1 3 (5, .iconst 0, 1) rfl
theorem dX3_agreesWithTries_6 : decode cX3_agreesWithTries 6 = .ok (.istore_n 3, 1) := tb_d tk_X3_agreesWithTries_1 4 (6, .istore_n 3, 1) rfl
theorem dX3_agreesWithTries_7 : decode cX3_agreesWithTries 7 = .ok (.iload_n 3, 1) := tb_d tk_X3_agreesWithTries_1 5 (7, .iload_n 3, 1) rfl
theorem dX3_agreesWithTries_8 : decode cX3_agreesWithTries 8 = .ok (.aload_n 2, 1) := tb_d tk_X3_agreesWithTries_1 6 (8, .aload_n 2, 1) rfl
theorem dX3_agreesWithTries_9 : decode cX3_agreesWithTries 9 = .ok (.getfield 36, 3) := tb_d tk_X3_agreesWithTries_1 7 (9, .getfield 36, 3) rfl
theorem dX3_agreesWithTries_12 : decode cX3_agreesWithTries 12 = .ok (.if_icmp .ge 79, 3) := tb_d tk_X3_agreesWithTries_1 8 (12, .if_icmp .ge 79, 3) rfl
theorem dX3_agreesWithTries_15 : decode cX3_agreesWithTries 15 = .ok (.aload_n 2, 1) := tb_d tk_X3_agreesWithTries_1 9 (15, .aload_n 2, 1) rfl
theorem dX3_agreesWithTries_16 : decode cX3_agreesWithTries 16 = .ok (.getfield 41, 3) := tb_d tk_X3_agreesWithTries_1 10 (16, .getfield 41, 3) rfl
theorem dX3_agreesWithTries_19 : decode cX3_agreesWithTries 19 = .ok (.iload_n 3, 1) := tb_d tk_X3_agreesWithTries_1 11 (19, .iload_n 3, 1) rfl
theorem dX3_agreesWithTries_20 : decode cX3_agreesWithTries 20 = .ok (.iaload, 1) := tb_d tk_X3_agreesWithTries_1 12 (20, .iaload, 1) rfl
theorem dX3_agreesWithTries_21 : decode cX3_agreesWithTries 21 = .ok (.istore 4, 2) := tb_d tk_X3_agreesWithTries_1 13 (21, .istore 4, 2) rfl
theorem dX3_agreesWithTries_23 : decode cX3_agreesWithTries 23 = .ok (.iload 4, 2) := tb_d tk_X3_agreesWithTries_1 14 (23, .iload 4, 2) rfl
theorem dX3_agreesWithTries_25 : decode cX3_agreesWithTries 25 = .ok (.ifCond .lt 41, 3) := tb_d tk_X3_agreesWithTries_1 15 (25, .ifCond .lt 41, 3) rfl
theorem dX3_agreesWithTries_28 : decode cX3_agreesWithTries 28 = .ok (.iload 4, 2) := tb_d tk_X3_agreesWithTries_1 16 (28, .iload 4, 2) rfl
theorem dX3_agreesWithTries_30 : decode cX3_agreesWithTries 30 = .ok (.aload_n 0, 1) := tb_d tk_X3_agreesWithTries_1 17 (30, .aload_n 0, 1) rfl
theorem dX3_agreesWithTries_31 : decode cX3_agreesWithTries 31 = .ok (.getfield 44, 3) := tb_d tk_X3_agreesWithTries_1 18 (31, .getfield 44, 3) rfl
theorem dX3_agreesWithTries_34 : decode cX3_agreesWithTries 34 = .ok (.if_icmp .ge 32, 3) := tb_d tk_X3_agreesWithTries_1 19 (34, .if_icmp .ge 32, 3) rfl
theorem dX3_agreesWithTries_37 : decode cX3_agreesWithTries 37 = .ok (.aload_n 0, 1) := tb_d tk_X3_agreesWithTries_1 20 (37, .aload_n 0, 1) rfl
theorem dX3_agreesWithTries_38 : decode cX3_agreesWithTries 38 = .ok (.aload_n 0, 1) := tb_d tk_X3_agreesWithTries_1 21 (38, .aload_n 0, 1) rfl
theorem dX3_agreesWithTries_39 : decode cX3_agreesWithTries 39 = .ok (.getfield 47, 3) := tb_d tk_X3_agreesWithTries_1 22 (39, .getfield 47, 3) rfl
theorem dX3_agreesWithTries_42 : decode cX3_agreesWithTries 42 = .ok (.iload 4, 2) := tb_d tk_X3_agreesWithTries_1 23 (42, .iload 4, 2) rfl
theorem dX3_agreesWithTries_44 : decode cX3_agreesWithTries 44 = .ok (.iaload, 1) := tb_d tk_X3_agreesWithTries_1 24 (44, .iaload, 1) rfl
theorem dX3_agreesWithTries_45 : decode cX3_agreesWithTries 45 = .ok (.aload_n 2, 1) := tb_d tk_X3_agreesWithTries_1 25 (45, .aload_n 2, 1) rfl
theorem dX3_agreesWithTries_46 : decode cX3_agreesWithTries 46 = .ok (.getfield 50, 3) := tb_d tk_X3_agreesWithTries_1 26 (46, .getfield 50, 3) rfl
theorem dX3_agreesWithTries_49 : decode cX3_agreesWithTries 49 = .ok (.iload_n 3, 1) := tb_d tk_X3_agreesWithTries_1 27 (49, .iload_n 3, 1) rfl
theorem dX3_agreesWithTries_50 : decode cX3_agreesWithTries 50 = .ok (.iaload, 1) := tb_d tk_X3_agreesWithTries_1 28 (50, .iaload, 1) rfl
theorem dX3_agreesWithTries_51 : decode cX3_agreesWithTries 51 = .ok (.iload_n 1, 1) := tb_d tk_X3_agreesWithTries_1 29 (51, .iload_n 1, 1) rfl
theorem dX3_agreesWithTries_52 : decode cX3_agreesWithTries 52 = .ok (.aload_n 2, 1) := tb_d tk_X3_agreesWithTries_1 30 (52, .aload_n 2, 1) rfl
theorem dX3_agreesWithTries_53 : decode cX3_agreesWithTries 53 = .ok (.getfield 53, 3) := tb_d tk_X3_agreesWithTries_1 31 (53, .getfield 53, 3) rfl
theorem dX3_agreesWithTries_56 : decode cX3_agreesWithTries 56 = .ok (.invokevirtual 56, 3) := tb_d tk_X3_agreesWithTries_1 32 (56, .invokevirtual 56, 3) rfl
theorem dX3_agreesWithTries_59 : decode cX3_agreesWithTries 59 = .ok (.ifCond .eq 7, 3) := tb_d tk_X3_agreesWithTries_1 33 (59, .ifCond .eq 7, 3) rfl
theorem dX3_agreesWithTries_62 : decode cX3_agreesWithTries 62 = .ok (.iconst 1, 1) := tb_d tk_X3_agreesWithTries_1 34 (62, .iconst 1, 1) rfl
theorem dX3_agreesWithTries_63 : decode cX3_agreesWithTries 63 = .ok (.goto 4, 3) := tb_d tk_X3_agreesWithTries_1 35 (63, .goto 4, 3) rfl
theorem dX3_agreesWithTries_66 : decode cX3_agreesWithTries 66 = .ok (.iconst 0, 1) := tb_d tk_X3_agreesWithTries_1 36 (66, .iconst 0, 1) rfl
theorem dX3_agreesWithTries_67 : decode cX3_agreesWithTries 67 = .ok (.istore 5, 2) := tb_d tk_X3_agreesWithTries_1 37 (67, .istore 5, 2) rfl
theorem dX3_agreesWithTries_69 : decode cX3_agreesWithTries 69 = .ok (.iload 5, 2) := tb_d tk_X3_agreesWithTries_1 38 (69, .iload 5, 2) rfl
theorem dX3_agreesWithTries_71 : decode cX3_agreesWithTries 71 = .ok (.invokestatic 28, 3) := tb_d tk_X3_agreesWithTries_1 39 (71, .invokestatic 28, 3) rfl
def tb_X3_agreesWithTries_2 : List (Nat × Instr × Nat) := [(74, .aload_n 2, 1), (75, .getfield 60, 3), (78, .iload_n 3, 1), (79, .iaload, 1), (80, .if_icmp .eq 5, 3), (83, .iconst 0, 1), (84, .ireturn, 1), (85, .iinc 3 1, 3), (88, .goto (-81), 3), (91, .iconst 1, 1), (92, .ireturn, 1)]
set_option maxRecDepth 100000 in
theorem tk_X3_agreesWithTries_2 : (tb_X3_agreesWithTries_2.all fun q => decide (decode cX3_agreesWithTries q.1 = .ok q.2)) = true := by decide +kernel
theorem dX3_agreesWithTries_74 : decode cX3_agreesWithTries 74 = .ok (.aload_n 2, 1) := tb_d tk_X3_agreesWithTries_2 0 (74, .aload_n 2, 1) rfl
theorem dX3_agreesWithTries_75 : decode cX3_agreesWithTries 75 = .ok (.getfield 60, 3) := tb_d tk_X3_agreesWithTries_2 1 (75, .getfield 60, 3) rfl
theorem dX3_agreesWithTries_78 : decode cX3_agreesWithTries 78 = .ok (.iload_n 3, 1) := tb_d tk_X3_agreesWithTries_2 2 (78, .iload_n 3, 1) rfl
theorem dX3_agreesWithTries_79 : decode cX3_agreesWithTries 79 = .ok (.iaload, 1) := tb_d tk_X3_agreesWithTries_2 3 (79, .iaload, 1) rfl
theorem dX3_agreesWithTries_80 : decode cX3_agreesWithTries 80 = .ok (.if_icmp .eq 5, 3) := tb_d tk_X3_agreesWithTries_2 4 (80, .if_icmp .eq 5, 3) rfl
theorem dX3_agreesWithTries_83 : decode cX3_agreesWithTries 83 = .ok (.iconst 0, 1) := tb_d tk_X3_agreesWithTries_2 5 (83, .iconst 0, 1) rfl
theorem dX3_agreesWithTries_84 : decode cX3_agreesWithTries 84 = .ok (.ireturn, 1) := tb_d tk_X3_agreesWithTries_2 6 (84, .ireturn, 1) rfl
theorem dX3_agreesWithTries_85 : decode cX3_agreesWithTries 85 = .ok (.iinc 3 1, 3) := tb_d tk_X3_agreesWithTries_2 7 (85, .iinc 3 1, 3) rfl
theorem dX3_agreesWithTries_88 : decode cX3_agreesWithTries 88 = .ok (.goto (-81), 3) := tb_d tk_X3_agreesWithTries_2 8 (88, .goto (-81), 3) rfl
theorem dX3_agreesWithTries_91 : decode cX3_agreesWithTries 91 = .ok (.iconst 1, 1) := tb_d tk_X3_agreesWithTries_2 9 (91, .iconst 1, 1) rfl
theorem dX3_agreesWithTries_92 : decode cX3_agreesWithTries 92 = .ok (.ireturn, 1) := tb_d tk_X3_agreesWithTries_2 10 (92, .ireturn, 1) rfl
set_option maxRecDepth 20000 in
theorem ggX3_secretsCatching_X2_catchesIf : GoodIn wsX3_secretsCatching wsX2_catchesIf := goodIn_r _ [8, 9, 10, 11, 12, 7, 13, 14, 15, 16, 17, 18, 19, 20, 21, 22, 23, 24, 25, 26, 27, 28, 29, 30, 31, 32, 33, 34, 35, 36, 39, 40, 41, 42, 43, 44, 45, 46, 47, 48, 49, 50, 51, 52, 53, 54] (by decide +kernel) (by decide +kernel)
set_option maxRecDepth 20000 in
theorem gX3_secretsCatching_X2_catchesIf : GoodIn wsX3_secretsCatching (wsV RX3 63 RX2 yX2_catchesIf wsX2_catchesIf) := goodIn_app (goodIn_of _ (by decide +kernel)) ggX3_secretsCatching_X2_catchesIf
set_option maxRecDepth 20000 in
theorem ggX3_secretsCatching_X7_bit : GoodIn wsX3_secretsCatching wsX7_bit := goodIn_r _ [38] (by decide +kernel) (by decide +kernel)
set_option maxRecDepth 20000 in
theorem gX3_secretsCatching_X7_bit_n28 : GoodIn wsX3_secretsCatching (wsX7_bit) := ggX3_secretsCatching_X7_bit
def tb_X3_secretsCatching_1 : List (Nat × Instr × Nat) := [(0, .iconst 0, 1), (1, .istore_n 3, 1), (2, .iconst 0, 1), (3, .istore 4, 2), (5, .iload 4, 2), (7, .aload_n 0, 1), (8, .getfield 18, 3), (11, .if_icmp .ge 33, 3), (14, .iload_n 3, 1), (15, .aload_n 0, 1), (16, .iload 4, 2), (18, .iload_n 1, 1), (19, .iload_n 2, 1), (20, .aload_n 0, 1), (21, .getfield 32, 3), (24, .getfield 53, 3), (27, .invokevirtual 63, 3), (30, .invokestatic 28, 3), (33, .iload 4, 2), (35, .ishl, 1), (36, .ior, 1), (37, .istore_n 3, 1), (38, .iinc 4 1, 3), (41, .goto (-36), 3), (44, .iload_n 3, 1), (45, .ireturn, 1)]
set_option maxRecDepth 100000 in
theorem tk_X3_secretsCatching_1 : (tb_X3_secretsCatching_1.all fun q => decide (decode cX3_secretsCatching q.1 = .ok q.2)) = true := by decide +kernel
theorem dX3_secretsCatching_0 : decode cX3_secretsCatching 0 = .ok (.iconst 0, 1) := tb_d tk_X3_secretsCatching_1 0 (0, .iconst 0, 1) rfl
theorem dX3_secretsCatching_1 : decode cX3_secretsCatching 1 = .ok (.istore_n 3, 1) := tb_d tk_X3_secretsCatching_1 1 (1, .istore_n 3, 1) rfl
theorem dX3_secretsCatching_2 : decode cX3_secretsCatching 2 = .ok (.iconst 0, 1) := tb_d tk_X3_secretsCatching_1 2 (2, .iconst 0, 1) rfl
theorem dX3_secretsCatching_3 : decode cX3_secretsCatching 3 = .ok (.istore 4, 2) := tb_d tk_X3_secretsCatching_1 3 (3, .istore 4, 2) rfl
theorem dX3_secretsCatching_5 : decode cX3_secretsCatching 5 = .ok (.iload 4, 2) := tb_d tk_X3_secretsCatching_1 4 (5, .iload 4, 2) rfl
theorem dX3_secretsCatching_7 : decode cX3_secretsCatching 7 = .ok (.aload_n 0, 1) := tb_d tk_X3_secretsCatching_1 5 (7, .aload_n 0, 1) rfl
theorem dX3_secretsCatching_8 : decode cX3_secretsCatching 8 = .ok (.getfield 18, 3) := tb_d tk_X3_secretsCatching_1 6 (8, .getfield 18, 3) rfl
theorem dX3_secretsCatching_11 : decode cX3_secretsCatching 11 = .ok (.if_icmp .ge 33, 3) := tb_d tk_X3_secretsCatching_1 7 (11, .if_icmp .ge 33, 3) rfl
theorem dX3_secretsCatching_14 : decode cX3_secretsCatching 14 = .ok (.iload_n 3, 1) := tb_d tk_X3_secretsCatching_1 8 (14, .iload_n 3, 1) rfl
theorem dX3_secretsCatching_15 : decode cX3_secretsCatching 15 = .ok (.aload_n 0, 1) := tb_d tk_X3_secretsCatching_1 9 (15, .aload_n 0, 1) rfl
theorem dX3_secretsCatching_16 : decode cX3_secretsCatching 16 = .ok (.iload 4, 2) := tb_d tk_X3_secretsCatching_1 10 (16, .iload 4, 2) rfl
theorem dX3_secretsCatching_18 : decode cX3_secretsCatching 18 = .ok (.iload_n 1, 1) := tb_d tk_X3_secretsCatching_1 11 (18, .iload_n 1, 1) rfl
theorem dX3_secretsCatching_19 : decode cX3_secretsCatching 19 = .ok (.iload_n 2, 1) := tb_d tk_X3_secretsCatching_1 12 (19, .iload_n 2, 1) rfl
theorem dX3_secretsCatching_20 : decode cX3_secretsCatching 20 = .ok (.aload_n 0, 1) := tb_d tk_X3_secretsCatching_1 13 (20, .aload_n 0, 1) rfl
theorem dX3_secretsCatching_21 : decode cX3_secretsCatching 21 = .ok (.getfield 32, 3) := tb_d tk_X3_secretsCatching_1 14 (21, .getfield 32, 3) rfl
theorem dX3_secretsCatching_24 : decode cX3_secretsCatching 24 = .ok (.getfield 53, 3) := tb_d tk_X3_secretsCatching_1 15 (24, .getfield 53, 3) rfl
theorem dX3_secretsCatching_27 : decode cX3_secretsCatching 27 = .ok (.invokevirtual 63, 3) := tb_d tk_X3_secretsCatching_1 16 (27, .invokevirtual 63, 3) rfl
theorem dX3_secretsCatching_30 : decode cX3_secretsCatching 30 = .ok (.invokestatic 28, 3) := tb_d tk_X3_secretsCatching_1 17 (30, .invokestatic 28, 3) rfl
theorem dX3_secretsCatching_33 : decode cX3_secretsCatching 33 = .ok (.iload 4, 2) := tb_d tk_X3_secretsCatching_1 18 (33, .iload 4, 2) rfl
theorem dX3_secretsCatching_35 : decode cX3_secretsCatching 35 = .ok (.ishl, 1) := tb_d tk_X3_secretsCatching_1 19 (35, .ishl, 1) rfl
theorem dX3_secretsCatching_36 : decode cX3_secretsCatching 36 = .ok (.ior, 1) := tb_d tk_X3_secretsCatching_1 20 (36, .ior, 1) rfl
theorem dX3_secretsCatching_37 : decode cX3_secretsCatching 37 = .ok (.istore_n 3, 1) := tb_d tk_X3_secretsCatching_1 21 (37, .istore_n 3, 1) rfl
theorem dX3_secretsCatching_38 : decode cX3_secretsCatching 38 = .ok (.iinc 4 1, 3) := tb_d tk_X3_secretsCatching_1 22 (38, .iinc 4 1, 3) rfl
theorem dX3_secretsCatching_41 : decode cX3_secretsCatching 41 = .ok (.goto (-36), 3) := tb_d tk_X3_secretsCatching_1 23 (41, .goto (-36), 3) rfl
theorem dX3_secretsCatching_44 : decode cX3_secretsCatching 44 = .ok (.iload_n 3, 1) := tb_d tk_X3_secretsCatching_1 24 (44, .iload_n 3, 1) rfl
theorem dX3_secretsCatching_45 : decode cX3_secretsCatching 45 = .ok (.ireturn, 1) := tb_d tk_X3_secretsCatching_1 25 (45, .ireturn, 1) rfl
set_option maxRecDepth 20000 in
theorem ggX3_leftAtWorst_X3_secretsCatching : GoodIn wsX3_leftAtWorst wsX3_secretsCatching := goodIn_r _ [8, 9, 10, 11, 12, 13, 14, 15, 16, 17, 18, 19, 20, 21, 22, 23, 24, 25, 26, 27, 28, 29, 30, 31, 32, 33, 34, 35, 36, 37, 38, 39, 40, 41, 42, 43, 44, 45, 46, 54, 55, 56, 57, 58, 59, 60, 61, 62, 63, 64, 65, 66, 67, 68, 69] (by decide +kernel) (by decide +kernel)
set_option maxRecDepth 20000 in
theorem gX3_leftAtWorst_X3_secretsCatching : GoodIn wsX3_leftAtWorst (va_wsS RX3 66 yX3_secretsCatching wsX3_secretsCatching) := goodIn_app (goodIn_of _ (by decide +kernel)) ggX3_leftAtWorst_X3_secretsCatching
set_option maxRecDepth 20000 in
theorem ggX3_leftAtWorst_J6_bitCount_0f7a4 : GoodIn wsX3_leftAtWorst wsJ6_bitCount_0f7a4 := goodIn_r _ [50, 51, 52, 53] (by decide +kernel) (by decide +kernel)
set_option maxRecDepth 20000 in
theorem gX3_leftAtWorst_J6_bitCount_0f7a4 : GoodIn wsX3_leftAtWorst (va_wsS RX3 70 yJ6_bitCount_0f7a4 wsJ6_bitCount_0f7a4) := goodIn_app (goodIn_of _ (by decide +kernel)) ggX3_leftAtWorst_J6_bitCount_0f7a4
def tb_X3_leftAtWorst_1 : List (Nat × Instr × Nat) := [(0, .iload_n 2, 1), (1, .aload_n 0, 1), (2, .iload_n 1, 1), (3, .bipush 6, 2), (5, .idiv, 1), (6, .iload_n 1, 1), (7, .bipush 6, 2), (9, .irem, 1), (10, .invokestatic 66, 3), (13, .iand, 1), (14, .invokestatic 70, 3), (17, .istore_n 3, 1), (18, .iload_n 3, 1), (19, .iload_n 2, 1), (20, .invokestatic 70, 3), (23, .iload_n 3, 1), (24, .isub, 1), (25, .invokestatic 76, 3), (28, .ireturn, 1)]
set_option maxRecDepth 100000 in
theorem tk_X3_leftAtWorst_1 : (tb_X3_leftAtWorst_1.all fun q => decide (decode cX3_leftAtWorst q.1 = .ok q.2)) = true := by decide +kernel
theorem dX3_leftAtWorst_0 : decode cX3_leftAtWorst 0 = .ok (.iload_n 2, 1) := tb_d tk_X3_leftAtWorst_1 0 (0, .iload_n 2, 1) rfl
theorem dX3_leftAtWorst_1 : decode cX3_leftAtWorst 1 = .ok (.aload_n 0, 1) := tb_d tk_X3_leftAtWorst_1 1 (1, .aload_n 0, 1) rfl
theorem dX3_leftAtWorst_2 : decode cX3_leftAtWorst 2 = .ok (.iload_n 1, 1) := tb_d tk_X3_leftAtWorst_1 2 (2, .iload_n 1, 1) rfl
theorem dX3_leftAtWorst_3 : decode cX3_leftAtWorst 3 = .ok (.bipush 6, 2) := tb_d tk_X3_leftAtWorst_1 3 (3, .bipush 6, 2) rfl
theorem dX3_leftAtWorst_5 : decode cX3_leftAtWorst 5 = .ok (.idiv, 1) := tb_d tk_X3_leftAtWorst_1 4 (5, .idiv, 1) rfl
theorem dX3_leftAtWorst_6 : decode cX3_leftAtWorst 6 = .ok (.iload_n 1, 1) := tb_d tk_X3_leftAtWorst_1 5 (6, .iload_n 1, 1) rfl
theorem dX3_leftAtWorst_7 : decode cX3_leftAtWorst 7 = .ok (.bipush 6, 2) := tb_d tk_X3_leftAtWorst_1 6 (7, .bipush 6, 2) rfl
theorem dX3_leftAtWorst_9 : decode cX3_leftAtWorst 9 = .ok (.irem, 1) := tb_d tk_X3_leftAtWorst_1 7 (9, .irem, 1) rfl
theorem dX3_leftAtWorst_10 : decode cX3_leftAtWorst 10 = .ok (.invokestatic 66, 3) := tb_d tk_X3_leftAtWorst_1 8 (10, .invokestatic 66, 3) rfl
theorem dX3_leftAtWorst_13 : decode cX3_leftAtWorst 13 = .ok (.iand, 1) := tb_d tk_X3_leftAtWorst_1 9 (13, .iand, 1) rfl
theorem dX3_leftAtWorst_14 : decode cX3_leftAtWorst 14 = .ok (.invokestatic 70, 3) := tb_d tk_X3_leftAtWorst_1 10 (14, .invokestatic 70, 3) rfl
theorem dX3_leftAtWorst_17 : decode cX3_leftAtWorst 17 = .ok (.istore_n 3, 1) := tb_d tk_X3_leftAtWorst_1 11 (17, .istore_n 3, 1) rfl
theorem dX3_leftAtWorst_18 : decode cX3_leftAtWorst 18 = .ok (.iload_n 3, 1) := tb_d tk_X3_leftAtWorst_1 12 (18, .iload_n 3, 1) rfl
theorem dX3_leftAtWorst_19 : decode cX3_leftAtWorst 19 = .ok (.iload_n 2, 1) := tb_d tk_X3_leftAtWorst_1 13 (19, .iload_n 2, 1) rfl
theorem dX3_leftAtWorst_20 : decode cX3_leftAtWorst 20 = .ok (.invokestatic 70, 3) := tb_d tk_X3_leftAtWorst_1 14 (20, .invokestatic 70, 3) rfl
theorem dX3_leftAtWorst_23 : decode cX3_leftAtWorst 23 = .ok (.iload_n 3, 1) := tb_d tk_X3_leftAtWorst_1 15 (23, .iload_n 3, 1) rfl
theorem dX3_leftAtWorst_24 : decode cX3_leftAtWorst 24 = .ok (.isub, 1) := tb_d tk_X3_leftAtWorst_1 16 (24, .isub, 1) rfl
theorem dX3_leftAtWorst_25 : decode cX3_leftAtWorst 25 = .ok (.invokestatic 76, 3) := tb_d tk_X3_leftAtWorst_1 17 (25, .invokestatic 76, 3) rfl
theorem dX3_leftAtWorst_28 : decode cX3_leftAtWorst 28 = .ok (.ireturn, 1) := tb_d tk_X3_leftAtWorst_1 18 (28, .ireturn, 1) rfl
set_option maxRecDepth 20000 in
theorem ggX3_bestTry_X3_leftAtWorst : GoodIn wsX3_bestTry wsX3_leftAtWorst := goodIn_r _ [5, 6, 7, 8, 9, 10, 11, 4, 12, 1, 13, 14, 15, 16, 17, 18, 19, 20, 21, 22, 23, 24, 25, 26, 27, 28, 29, 30, 31, 32, 33, 34, 35, 36, 37, 38, 39, 40, 41, 42, 43, 44, 45, 46, 47, 48, 49, 50, 51, 52, 53, 54, 55, 56, 57, 58, 59, 60, 61, 62, 63, 64, 65, 66, 67, 68, 69, 70, 71, 72] (by decide +kernel) (by decide +kernel)
set_option maxRecDepth 20000 in
theorem gX3_bestTry_X3_leftAtWorst : GoodIn wsX3_bestTry (va_wsS RX3 82 yX3_leftAtWorst wsX3_leftAtWorst) := goodIn_app (goodIn_of _ (by decide +kernel)) ggX3_bestTry_X3_leftAtWorst
def tb_X3_bestTry_1 : List (Nat × Instr × Nat) := [(0, .iconst 0, 1), (1, .istore_n 2, 1), (2, .aload_n 0, 1), (3, .iconst 0, 1), (4, .iload_n 1, 1), (5, .invokestatic 82, 3), (8, .istore_n 3, 1), (9, .iconst 1, 1), (10, .istore 4, 2), (12, .iload 4, 2), (14, .aload_n 0, 1), (15, .getfield 18, 3), (18, .bipush 6, 2), (20, .imul, 1), (21, .if_icmp .ge 30, 3), (24, .aload_n 0, 1), (25, .iload 4, 2), (27, .iload_n 1, 1), (28, .invokestatic 82, 3), (31, .istore 5, 2), (33, .iload 5, 2), (35, .iload_n 3, 1), (36, .if_icmp .ge 9, 3), (39, .iload 4, 2), (41, .istore_n 2, 1), (42, .iload 5, 2), (44, .istore_n 3, 1), (45, .iinc 4 1, 3), (48, .goto (-36), 3), (51, .iload_n 2, 1), (52, .ireturn, 1)]
set_option maxRecDepth 100000 in
theorem tk_X3_bestTry_1 : (tb_X3_bestTry_1.all fun q => decide (decode cX3_bestTry q.1 = .ok q.2)) = true := by decide +kernel
theorem dX3_bestTry_0 : decode cX3_bestTry 0 = .ok (.iconst 0, 1) := tb_d tk_X3_bestTry_1 0 (0, .iconst 0, 1) rfl
theorem dX3_bestTry_1 : decode cX3_bestTry 1 = .ok (.istore_n 2, 1) := tb_d tk_X3_bestTry_1 1 (1, .istore_n 2, 1) rfl
theorem dX3_bestTry_2 : decode cX3_bestTry 2 = .ok (.aload_n 0, 1) := tb_d tk_X3_bestTry_1 2 (2, .aload_n 0, 1) rfl
theorem dX3_bestTry_3 : decode cX3_bestTry 3 = .ok (.iconst 0, 1) := tb_d tk_X3_bestTry_1 3 (3, .iconst 0, 1) rfl
theorem dX3_bestTry_4 : decode cX3_bestTry 4 = .ok (.iload_n 1, 1) := tb_d tk_X3_bestTry_1 4 (4, .iload_n 1, 1) rfl
theorem dX3_bestTry_5 : decode cX3_bestTry 5 = .ok (.invokestatic 82, 3) := tb_d tk_X3_bestTry_1 5 (5, .invokestatic 82, 3) rfl
theorem dX3_bestTry_8 : decode cX3_bestTry 8 = .ok (.istore_n 3, 1) := tb_d tk_X3_bestTry_1 6 (8, .istore_n 3, 1) rfl
theorem dX3_bestTry_9 : decode cX3_bestTry 9 = .ok (.iconst 1, 1) := tb_d tk_X3_bestTry_1 7 (9, .iconst 1, 1) rfl
theorem dX3_bestTry_10 : decode cX3_bestTry 10 = .ok (.istore 4, 2) := tb_d tk_X3_bestTry_1 8 (10, .istore 4, 2) rfl
theorem dX3_bestTry_12 : decode cX3_bestTry 12 = .ok (.iload 4, 2) := tb_d tk_X3_bestTry_1 9 (12, .iload 4, 2) rfl
theorem dX3_bestTry_14 : decode cX3_bestTry 14 = .ok (.aload_n 0, 1) := tb_d tk_X3_bestTry_1 10 (14, .aload_n 0, 1) rfl
theorem dX3_bestTry_15 : decode cX3_bestTry 15 = .ok (.getfield 18, 3) := tb_d tk_X3_bestTry_1 11 (15, .getfield 18, 3) rfl
theorem dX3_bestTry_18 : decode cX3_bestTry 18 = .ok (.bipush 6, 2) := tb_d tk_X3_bestTry_1 12 (18, .bipush 6, 2) rfl
theorem dX3_bestTry_20 : decode cX3_bestTry 20 = .ok (.imul, 1) := tb_d tk_X3_bestTry_1 13 (20, .imul, 1) rfl
theorem dX3_bestTry_21 : decode cX3_bestTry 21 = .ok (.if_icmp .ge 30, 3) := tb_d tk_X3_bestTry_1 14 (21, .if_icmp .ge 30, 3) rfl
theorem dX3_bestTry_24 : decode cX3_bestTry 24 = .ok (.aload_n 0, 1) := tb_d tk_X3_bestTry_1 15 (24, .aload_n 0, 1) rfl
theorem dX3_bestTry_25 : decode cX3_bestTry 25 = .ok (.iload 4, 2) := tb_d tk_X3_bestTry_1 16 (25, .iload 4, 2) rfl
theorem dX3_bestTry_27 : decode cX3_bestTry 27 = .ok (.iload_n 1, 1) := tb_d tk_X3_bestTry_1 17 (27, .iload_n 1, 1) rfl
theorem dX3_bestTry_28 : decode cX3_bestTry 28 = .ok (.invokestatic 82, 3) := tb_d tk_X3_bestTry_1 18 (28, .invokestatic 82, 3) rfl
theorem dX3_bestTry_31 : decode cX3_bestTry 31 = .ok (.istore 5, 2) := tb_d tk_X3_bestTry_1 19 (31, .istore 5, 2) rfl
theorem dX3_bestTry_33 : decode cX3_bestTry 33 = .ok (.iload 5, 2) := tb_d tk_X3_bestTry_1 20 (33, .iload 5, 2) rfl
theorem dX3_bestTry_35 : decode cX3_bestTry 35 = .ok (.iload_n 3, 1) := tb_d tk_X3_bestTry_1 21 (35, .iload_n 3, 1) rfl
theorem dX3_bestTry_36 : decode cX3_bestTry 36 = .ok (.if_icmp .ge 9, 3) := tb_d tk_X3_bestTry_1 22 (36, .if_icmp .ge 9, 3) rfl
theorem dX3_bestTry_39 : decode cX3_bestTry 39 = .ok (.iload 4, 2) := tb_d tk_X3_bestTry_1 23 (39, .iload 4, 2) rfl
theorem dX3_bestTry_41 : decode cX3_bestTry 41 = .ok (.istore_n 2, 1) := tb_d tk_X3_bestTry_1 24 (41, .istore_n 2, 1) rfl
theorem dX3_bestTry_42 : decode cX3_bestTry 42 = .ok (.iload 5, 2) := tb_d tk_X3_bestTry_1 25 (42, .iload 5, 2) rfl
theorem dX3_bestTry_44 : decode cX3_bestTry 44 = .ok (.istore_n 3, 1) := tb_d tk_X3_bestTry_1 26 (44, .istore_n 3, 1) rfl
theorem dX3_bestTry_45 : decode cX3_bestTry 45 = .ok (.iinc 4 1, 3) := tb_d tk_X3_bestTry_1 27 (45, .iinc 4 1, 3) rfl
theorem dX3_bestTry_48 : decode cX3_bestTry 48 = .ok (.goto (-36), 3) := tb_d tk_X3_bestTry_1 28 (48, .goto (-36), 3) rfl
theorem dX3_bestTry_51 : decode cX3_bestTry 51 = .ok (.iload_n 2, 1) := tb_d tk_X3_bestTry_1 29 (51, .iload_n 2, 1) rfl
theorem dX3_bestTry_52 : decode cX3_bestTry 52 = .ok (.ireturn, 1) := tb_d tk_X3_bestTry_1 30 (52, .ireturn, 1) rfl
set_option maxRecDepth 20000 in
theorem ggX3_fewestMen_X3_secretsCatching : GoodIn wsX3_fewestMen wsX3_secretsCatching := goodIn_r _ [8, 1, 9, 10, 11, 12, 13, 14, 15, 16, 17, 18, 19, 20, 21, 22, 23, 24, 25, 26, 27, 28, 29, 30, 31, 32, 33, 34, 35, 36, 37, 38, 39, 40, 41, 42, 43, 44, 45, 64, 65, 66, 67, 68, 69, 70, 71, 74, 75, 76, 77, 78, 79, 80, 81] (by decide +kernel) (by decide +kernel)
set_option maxRecDepth 20000 in
theorem gX3_fewestMen_X3_secretsCatching : GoodIn wsX3_fewestMen (va_wsS RX3 66 yX3_secretsCatching wsX3_secretsCatching) := goodIn_app (goodIn_of _ (by decide +kernel)) ggX3_fewestMen_X3_secretsCatching
set_option maxRecDepth 20000 in
theorem ggX3_fewestMen_J6_bitCount_0f7a4 : GoodIn wsX3_fewestMen wsJ6_bitCount_0f7a4 := goodIn_r _ [49, 50, 51, 52] (by decide +kernel) (by decide +kernel)
set_option maxRecDepth 20000 in
theorem gX3_fewestMen_J6_bitCount_0f7a4 : GoodIn wsX3_fewestMen (va_wsS RX3 70 yJ6_bitCount_0f7a4 wsJ6_bitCount_0f7a4) := goodIn_app (goodIn_of _ (by decide +kernel)) ggX3_fewestMen_J6_bitCount_0f7a4
set_option maxRecDepth 20000 in
theorem ggX3_fewestMen_X3_menToSplit : GoodIn wsX3_fewestMen wsX3_menToSplit := goodIn_r _ [56, 2, 3, 57, 58, 59, 60, 61, 62, 63, 72, 73] (by decide +kernel) (by decide +kernel)
set_option maxRecDepth 20000 in
theorem gX3_fewestMen_X3_menToSplit : GoodIn wsX3_fewestMen (wsV RX3 85 RX3 yX3_menToSplit wsX3_menToSplit) := goodIn_app (goodIn_of _ (by decide +kernel)) ggX3_fewestMen_X3_menToSplit
def tb_X3_fewestMen_1 : List (Nat × Instr × Nat) := [(0, .aload_n 1, 1), (1, .getfield 18, 3), (4, .bipush 6, 2), (6, .imul, 1), (7, .istore_n 3, 1), (8, .iconst 0, 1), (9, .istore 4, 2), (11, .iload 4, 2), (13, .iload_n 3, 1), (14, .if_icmp .ge 30, 3), (17, .aload_n 0, 1), (18, .getfield 9, 3), (21, .iload 4, 2), (23, .aload_n 1, 1), (24, .iload 4, 2), (26, .bipush 6, 2), (28, .idiv, 1), (29, .iload 4, 2), (31, .bipush 6, 2), (33, .irem, 1), (34, .invokestatic 66, 3), (37, .iastore, 1), (38, .iinc 4 1, 3), (41, .goto (-30), 3), (44, .iconst 0, 1), (45, .istore 4, 2), (47, .iload 4, 2), (49, .iconst 1, 1), (50, .aload_n 1, 1), (51, .getfield 18, 3), (54, .ishl, 1), (55, .if_icmp .ge 36, 3), (58, .aload_n 0, 1), (59, .getfield 15, 3), (62, .iload 4, 2), (64, .iload 4, 2), (66, .invokestatic 70, 3), (69, .iconst 1, 1), (70, .if_icmp .gt 7, 3), (73, .iconst 0, 1)]
set_option maxRecDepth 100000 in
theorem tk_X3_fewestMen_1 : (tb_X3_fewestMen_1.all fun q => decide (decode cX3_fewestMen q.1 = .ok q.2)) = true := by decide +kernel
theorem dX3_fewestMen_0 : decode cX3_fewestMen 0 = .ok (.aload_n 1, 1) := tb_d tk_X3_fewestMen_1 0 (0, .aload_n 1, 1) rfl
theorem dX3_fewestMen_1 : decode cX3_fewestMen 1 = .ok (.getfield 18, 3) := tb_d tk_X3_fewestMen_1 1 (1, .getfield 18, 3) rfl
theorem dX3_fewestMen_4 : decode cX3_fewestMen 4 = .ok (.bipush 6, 2) := tb_d tk_X3_fewestMen_1 2 (4, .bipush 6, 2) rfl
theorem dX3_fewestMen_6 : decode cX3_fewestMen 6 = .ok (.imul, 1) := tb_d tk_X3_fewestMen_1 3 (6, .imul, 1) rfl
theorem dX3_fewestMen_7 : decode cX3_fewestMen 7 = .ok (.istore_n 3, 1) := tb_d tk_X3_fewestMen_1 4 (7, .istore_n 3, 1) rfl
theorem dX3_fewestMen_8 : decode cX3_fewestMen 8 = .ok (.iconst 0, 1) := tb_d tk_X3_fewestMen_1 5 (8, .iconst 0, 1) rfl
theorem dX3_fewestMen_9 : decode cX3_fewestMen 9 = .ok (.istore 4, 2) := tb_d tk_X3_fewestMen_1 6 (9, .istore 4, 2) rfl
theorem dX3_fewestMen_11 : decode cX3_fewestMen 11 = .ok (.iload 4, 2) := tb_d tk_X3_fewestMen_1 7 (11, .iload 4, 2) rfl
theorem dX3_fewestMen_13 : decode cX3_fewestMen 13 = .ok (.iload_n 3, 1) := tb_d tk_X3_fewestMen_1 8 (13, .iload_n 3, 1) rfl
theorem dX3_fewestMen_14 : decode cX3_fewestMen 14 = .ok (.if_icmp .ge 30, 3) := tb_d tk_X3_fewestMen_1 9 (14, .if_icmp .ge 30, 3) rfl
theorem dX3_fewestMen_17 : decode cX3_fewestMen 17 = .ok (.aload_n 0, 1) := tb_d tk_X3_fewestMen_1 10 (17, .aload_n 0, 1) rfl
theorem dX3_fewestMen_18 : decode cX3_fewestMen 18 = .ok (.getfield 9, 3) := tb_d tk_X3_fewestMen_1 11 (18, .getfield 9, 3) rfl
theorem dX3_fewestMen_21 : decode cX3_fewestMen 21 = .ok (.iload 4, 2) := tb_d tk_X3_fewestMen_1 12 (21, .iload 4, 2) rfl
theorem dX3_fewestMen_23 : decode cX3_fewestMen 23 = .ok (.aload_n 1, 1) := tb_d tk_X3_fewestMen_1 13 (23, .aload_n 1, 1) rfl
theorem dX3_fewestMen_24 : decode cX3_fewestMen 24 = .ok (.iload 4, 2) := tb_d tk_X3_fewestMen_1 14 (24, .iload 4, 2) rfl
theorem dX3_fewestMen_26 : decode cX3_fewestMen 26 = .ok (.bipush 6, 2) := tb_d tk_X3_fewestMen_1 15 (26, .bipush 6, 2) rfl
theorem dX3_fewestMen_28 : decode cX3_fewestMen 28 = .ok (.idiv, 1) := tb_d tk_X3_fewestMen_1 16 (28, .idiv, 1) rfl
theorem dX3_fewestMen_29 : decode cX3_fewestMen 29 = .ok (.iload 4, 2) := tb_d tk_X3_fewestMen_1 17 (29, .iload 4, 2) rfl
theorem dX3_fewestMen_31 : decode cX3_fewestMen 31 = .ok (.bipush 6, 2) := tb_d tk_X3_fewestMen_1 18 (31, .bipush 6, 2) rfl
theorem dX3_fewestMen_33 : decode cX3_fewestMen 33 = .ok (.irem, 1) := tb_d tk_X3_fewestMen_1 19 (33, .irem, 1) rfl
theorem dX3_fewestMen_34 : decode cX3_fewestMen 34 = .ok (.invokestatic 66, 3) := tb_d tk_X3_fewestMen_1 20 (34, .invokestatic 66, 3) rfl
theorem dX3_fewestMen_37 : decode cX3_fewestMen 37 = .ok (.iastore, 1) := tb_d tk_X3_fewestMen_1 21 (37, .iastore, 1) rfl
theorem dX3_fewestMen_38 : decode cX3_fewestMen 38 = .ok (.iinc 4 1, 3) := tb_d tk_X3_fewestMen_1 22 (38, .iinc 4 1, 3) rfl
theorem dX3_fewestMen_41 : decode cX3_fewestMen 41 = .ok (.goto (-30), 3) := tb_d tk_X3_fewestMen_1 23 (41, .goto (-30), 3) rfl
theorem dX3_fewestMen_44 : decode cX3_fewestMen 44 = .ok (.iconst 0, 1) := tb_d tk_X3_fewestMen_1 24 (44, .iconst 0, 1) rfl
theorem dX3_fewestMen_45 : decode cX3_fewestMen 45 = .ok (.istore 4, 2) := tb_d tk_X3_fewestMen_1 25 (45, .istore 4, 2) rfl
theorem dX3_fewestMen_47 : decode cX3_fewestMen 47 = .ok (.iload 4, 2) := tb_d tk_X3_fewestMen_1 26 (47, .iload 4, 2) rfl
theorem dX3_fewestMen_49 : decode cX3_fewestMen 49 = .ok (.iconst 1, 1) := tb_d tk_X3_fewestMen_1 27 (49, .iconst 1, 1) rfl
theorem dX3_fewestMen_50 : decode cX3_fewestMen 50 = .ok (.aload_n 1, 1) := tb_d tk_X3_fewestMen_1 28 (50, .aload_n 1, 1) rfl
theorem dX3_fewestMen_51 : decode cX3_fewestMen 51 = .ok (.getfield 18, 3) := tb_d tk_X3_fewestMen_1 29 (51, .getfield 18, 3) rfl
theorem dX3_fewestMen_54 : decode cX3_fewestMen 54 = .ok (.ishl, 1) := tb_d tk_X3_fewestMen_1 30 (54, .ishl, 1) rfl
theorem dX3_fewestMen_55 : decode cX3_fewestMen 55 = .ok (.if_icmp .ge 36, 3) := tb_d tk_X3_fewestMen_1 31 (55, .if_icmp .ge 36, 3) rfl
theorem dX3_fewestMen_58 : decode cX3_fewestMen 58 = .ok (.aload_n 0, 1) := tb_d tk_X3_fewestMen_1 32 (58, .aload_n 0, 1) rfl
theorem dX3_fewestMen_59 : decode cX3_fewestMen 59 = .ok (.getfield 15, 3) := tb_d tk_X3_fewestMen_1 33 (59, .getfield 15, 3) rfl
theorem dX3_fewestMen_62 : decode cX3_fewestMen 62 = .ok (.iload 4, 2) := tb_d tk_X3_fewestMen_1 34 (62, .iload 4, 2) rfl
theorem dX3_fewestMen_64 : decode cX3_fewestMen 64 = .ok (.iload 4, 2) := tb_d tk_X3_fewestMen_1 35 (64, .iload 4, 2) rfl
theorem dX3_fewestMen_66 : decode cX3_fewestMen 66 = .ok (.invokestatic 70, 3) := tb_d tk_X3_fewestMen_1 36 (66, .invokestatic 70, 3) rfl
theorem dX3_fewestMen_69 : decode cX3_fewestMen 69 = .ok (.iconst 1, 1) := tb_d tk_X3_fewestMen_1 37 (69, .iconst 1, 1) rfl
theorem dX3_fewestMen_70 : decode cX3_fewestMen 70 = .ok (.if_icmp .gt 7, 3) := tb_d tk_X3_fewestMen_1 38 (70, .if_icmp .gt 7, 3) rfl
theorem dX3_fewestMen_73 : decode cX3_fewestMen 73 = .ok (.iconst 0, 1) := tb_d tk_X3_fewestMen_1 39 (73, .iconst 0, 1) rfl
def tb_X3_fewestMen_2 : List (Nat × Instr × Nat) := [(74, .goto 10, 3), (77, .aload_n 0, 1), (78, .iload 4, 2), (80, .iload_n 3, 1), (81, .invokevirtual 85, 3), (84, .iastore, 1), (85, .iinc 4 1, 3), (88, .goto (-41), 3), (91, .aload_n 0, 1), (92, .getfield 15, 3), (95, .iload_n 2, 1), (96, .iaload, 1), (97, .sipush 1000, 3), (100, .if_icmp .ge 12, 3), (103, .aload_n 0, 1), (104, .getfield 15, 3), (107, .iload_n 2, 1), (108, .iaload, 1), (109, .goto 5, 3), (112, .ldc 88, 2), (114, .ireturn, 1)]
set_option maxRecDepth 100000 in
theorem tk_X3_fewestMen_2 : (tb_X3_fewestMen_2.all fun q => decide (decode cX3_fewestMen q.1 = .ok q.2)) = true := by decide +kernel
theorem dX3_fewestMen_74 : decode cX3_fewestMen 74 = .ok (.goto 10, 3) := tb_d tk_X3_fewestMen_2 0 (74, .goto 10, 3) rfl
theorem dX3_fewestMen_77 : decode cX3_fewestMen 77 = .ok (.aload_n 0, 1) := tb_d tk_X3_fewestMen_2 1 (77, .aload_n 0, 1) rfl
theorem dX3_fewestMen_78 : decode cX3_fewestMen 78 = .ok (.iload 4, 2) := tb_d tk_X3_fewestMen_2 2 (78, .iload 4, 2) rfl
theorem dX3_fewestMen_80 : decode cX3_fewestMen 80 = .ok (.iload_n 3, 1) := tb_d tk_X3_fewestMen_2 3 (80, .iload_n 3, 1) rfl
theorem dX3_fewestMen_81 : decode cX3_fewestMen 81 = .ok (.invokevirtual 85, 3) := tb_d tk_X3_fewestMen_2 4 (81, .invokevirtual 85, 3) rfl
theorem dX3_fewestMen_84 : decode cX3_fewestMen 84 = .ok (.iastore, 1) := tb_d tk_X3_fewestMen_2 5 (84, .iastore, 1) rfl
theorem dX3_fewestMen_85 : decode cX3_fewestMen 85 = .ok (.iinc 4 1, 3) := tb_d tk_X3_fewestMen_2 6 (85, .iinc 4 1, 3) rfl
theorem dX3_fewestMen_88 : decode cX3_fewestMen 88 = .ok (.goto (-41), 3) := tb_d tk_X3_fewestMen_2 7 (88, .goto (-41), 3) rfl
theorem dX3_fewestMen_91 : decode cX3_fewestMen 91 = .ok (.aload_n 0, 1) := tb_d tk_X3_fewestMen_2 8 (91, .aload_n 0, 1) rfl
theorem dX3_fewestMen_92 : decode cX3_fewestMen 92 = .ok (.getfield 15, 3) := tb_d tk_X3_fewestMen_2 9 (92, .getfield 15, 3) rfl
theorem dX3_fewestMen_95 : decode cX3_fewestMen 95 = .ok (.iload_n 2, 1) := tb_d tk_X3_fewestMen_2 10 (95, .iload_n 2, 1) rfl
theorem dX3_fewestMen_96 : decode cX3_fewestMen 96 = .ok (.iaload, 1) := tb_d tk_X3_fewestMen_2 11 (96, .iaload, 1) rfl
theorem dX3_fewestMen_97 : decode cX3_fewestMen 97 = .ok (.sipush 1000, 3) := tb_d tk_X3_fewestMen_2 12 (97, .sipush 1000, 3) rfl
theorem dX3_fewestMen_100 : decode cX3_fewestMen 100 = .ok (.if_icmp .ge 12, 3) := tb_d tk_X3_fewestMen_2 13 (100, .if_icmp .ge 12, 3) rfl
theorem dX3_fewestMen_103 : decode cX3_fewestMen 103 = .ok (.aload_n 0, 1) := tb_d tk_X3_fewestMen_2 14 (103, .aload_n 0, 1) rfl
theorem dX3_fewestMen_104 : decode cX3_fewestMen 104 = .ok (.getfield 15, 3) := tb_d tk_X3_fewestMen_2 15 (104, .getfield 15, 3) rfl
theorem dX3_fewestMen_107 : decode cX3_fewestMen 107 = .ok (.iload_n 2, 1) := tb_d tk_X3_fewestMen_2 16 (107, .iload_n 2, 1) rfl
theorem dX3_fewestMen_108 : decode cX3_fewestMen 108 = .ok (.iaload, 1) := tb_d tk_X3_fewestMen_2 17 (108, .iaload, 1) rfl
theorem dX3_fewestMen_109 : decode cX3_fewestMen 109 = .ok (.goto 5, 3) := tb_d tk_X3_fewestMen_2 18 (109, .goto 5, 3) rfl
theorem dX3_fewestMen_112 : decode cX3_fewestMen 112 = .ok (.ldc 88, 2) := tb_d tk_X3_fewestMen_2 19 (112, .ldc 88, 2) rfl
theorem dX3_fewestMen_114 : decode cX3_fewestMen 114 = .ok (.ireturn, 1) := tb_d tk_X3_fewestMen_2 20 (114, .ireturn, 1) rfl
def tb_X3_menToSplit_1 : List (Nat × Instr × Nat) := [(0, .sipush 1000, 3), (3, .istore_n 3, 1), (4, .iconst 0, 1), (5, .istore 4, 2), (7, .iload 4, 2), (9, .iload_n 2, 1), (10, .if_icmp .ge 57, 3), (13, .iload_n 1, 1), (14, .aload_n 0, 1), (15, .getfield 9, 3), (18, .iload 4, 2), (20, .iaload, 1), (21, .iand, 1), (22, .istore 5, 2), (24, .iload 5, 2), (26, .ifCond .eq 35, 3), (29, .iload 5, 2), (31, .iload_n 1, 1), (32, .if_icmp .eq 29, 3), (35, .iload_n 3, 1), (36, .iconst 1, 1), (37, .aload_n 0, 1), (38, .getfield 15, 3), (41, .iload 5, 2), (43, .iaload, 1), (44, .aload_n 0, 1), (45, .getfield 15, 3), (48, .iload_n 1, 1), (49, .iload 5, 2), (51, .ixor, 1), (52, .iaload, 1), (53, .invokestatic 76, 3), (56, .iadd, 1), (57, .invokestatic 89, 3), (60, .istore_n 3, 1), (61, .iinc 4 1, 3), (64, .goto (-57), 3), (67, .iload_n 3, 1), (68, .ireturn, 1)]
set_option maxRecDepth 100000 in
theorem tk_X3_menToSplit_1 : (tb_X3_menToSplit_1.all fun q => decide (decode cX3_menToSplit q.1 = .ok q.2)) = true := by decide +kernel
theorem dX3_menToSplit_0 : decode cX3_menToSplit 0 = .ok (.sipush 1000, 3) := tb_d tk_X3_menToSplit_1 0 (0, .sipush 1000, 3) rfl
theorem dX3_menToSplit_3 : decode cX3_menToSplit 3 = .ok (.istore_n 3, 1) := tb_d tk_X3_menToSplit_1 1 (3, .istore_n 3, 1) rfl
theorem dX3_menToSplit_4 : decode cX3_menToSplit 4 = .ok (.iconst 0, 1) := tb_d tk_X3_menToSplit_1 2 (4, .iconst 0, 1) rfl
theorem dX3_menToSplit_5 : decode cX3_menToSplit 5 = .ok (.istore 4, 2) := tb_d tk_X3_menToSplit_1 3 (5, .istore 4, 2) rfl
theorem dX3_menToSplit_7 : decode cX3_menToSplit 7 = .ok (.iload 4, 2) := tb_d tk_X3_menToSplit_1 4 (7, .iload 4, 2) rfl
theorem dX3_menToSplit_9 : decode cX3_menToSplit 9 = .ok (.iload_n 2, 1) := tb_d tk_X3_menToSplit_1 5 (9, .iload_n 2, 1) rfl
theorem dX3_menToSplit_10 : decode cX3_menToSplit 10 = .ok (.if_icmp .ge 57, 3) := tb_d tk_X3_menToSplit_1 6 (10, .if_icmp .ge 57, 3) rfl
theorem dX3_menToSplit_13 : decode cX3_menToSplit 13 = .ok (.iload_n 1, 1) := tb_d tk_X3_menToSplit_1 7 (13, .iload_n 1, 1) rfl
theorem dX3_menToSplit_14 : decode cX3_menToSplit 14 = .ok (.aload_n 0, 1) := tb_d tk_X3_menToSplit_1 8 (14, .aload_n 0, 1) rfl
theorem dX3_menToSplit_15 : decode cX3_menToSplit 15 = .ok (.getfield 9, 3) := tb_d tk_X3_menToSplit_1 9 (15, .getfield 9, 3) rfl
theorem dX3_menToSplit_18 : decode cX3_menToSplit 18 = .ok (.iload 4, 2) := tb_d tk_X3_menToSplit_1 10 (18, .iload 4, 2) rfl
theorem dX3_menToSplit_20 : decode cX3_menToSplit 20 = .ok (.iaload, 1) := tb_d tk_X3_menToSplit_1 11 (20, .iaload, 1) rfl
theorem dX3_menToSplit_21 : decode cX3_menToSplit 21 = .ok (.iand, 1) := tb_d tk_X3_menToSplit_1 12 (21, .iand, 1) rfl
theorem dX3_menToSplit_22 : decode cX3_menToSplit 22 = .ok (.istore 5, 2) := tb_d tk_X3_menToSplit_1 13 (22, .istore 5, 2) rfl
theorem dX3_menToSplit_24 : decode cX3_menToSplit 24 = .ok (.iload 5, 2) := tb_d tk_X3_menToSplit_1 14 (24, .iload 5, 2) rfl
theorem dX3_menToSplit_26 : decode cX3_menToSplit 26 = .ok (.ifCond .eq 35, 3) := tb_d tk_X3_menToSplit_1 15 (26, .ifCond .eq 35, 3) rfl
theorem dX3_menToSplit_29 : decode cX3_menToSplit 29 = .ok (.iload 5, 2) := tb_d tk_X3_menToSplit_1 16 (29, .iload 5, 2) rfl
theorem dX3_menToSplit_31 : decode cX3_menToSplit 31 = .ok (.iload_n 1, 1) := tb_d tk_X3_menToSplit_1 17 (31, .iload_n 1, 1) rfl
theorem dX3_menToSplit_32 : decode cX3_menToSplit 32 = .ok (.if_icmp .eq 29, 3) := tb_d tk_X3_menToSplit_1 18 (32, .if_icmp .eq 29, 3) rfl
theorem dX3_menToSplit_35 : decode cX3_menToSplit 35 = .ok (.iload_n 3, 1) := tb_d tk_X3_menToSplit_1 19 (35, .iload_n 3, 1) rfl
theorem dX3_menToSplit_36 : decode cX3_menToSplit 36 = .ok (.iconst 1, 1) := tb_d tk_X3_menToSplit_1 20 (36, .iconst 1, 1) rfl
theorem dX3_menToSplit_37 : decode cX3_menToSplit 37 = .ok (.aload_n 0, 1) := tb_d tk_X3_menToSplit_1 21 (37, .aload_n 0, 1) rfl
theorem dX3_menToSplit_38 : decode cX3_menToSplit 38 = .ok (.getfield 15, 3) := tb_d tk_X3_menToSplit_1 22 (38, .getfield 15, 3) rfl
theorem dX3_menToSplit_41 : decode cX3_menToSplit 41 = .ok (.iload 5, 2) := tb_d tk_X3_menToSplit_1 23 (41, .iload 5, 2) rfl
theorem dX3_menToSplit_43 : decode cX3_menToSplit 43 = .ok (.iaload, 1) := tb_d tk_X3_menToSplit_1 24 (43, .iaload, 1) rfl
theorem dX3_menToSplit_44 : decode cX3_menToSplit 44 = .ok (.aload_n 0, 1) := tb_d tk_X3_menToSplit_1 25 (44, .aload_n 0, 1) rfl
theorem dX3_menToSplit_45 : decode cX3_menToSplit 45 = .ok (.getfield 15, 3) := tb_d tk_X3_menToSplit_1 26 (45, .getfield 15, 3) rfl
theorem dX3_menToSplit_48 : decode cX3_menToSplit 48 = .ok (.iload_n 1, 1) := tb_d tk_X3_menToSplit_1 27 (48, .iload_n 1, 1) rfl
theorem dX3_menToSplit_49 : decode cX3_menToSplit 49 = .ok (.iload 5, 2) := tb_d tk_X3_menToSplit_1 28 (49, .iload 5, 2) rfl
theorem dX3_menToSplit_51 : decode cX3_menToSplit 51 = .ok (.ixor, 1) := tb_d tk_X3_menToSplit_1 29 (51, .ixor, 1) rfl
theorem dX3_menToSplit_52 : decode cX3_menToSplit 52 = .ok (.iaload, 1) := tb_d tk_X3_menToSplit_1 30 (52, .iaload, 1) rfl
theorem dX3_menToSplit_53 : decode cX3_menToSplit 53 = .ok (.invokestatic 76, 3) := tb_d tk_X3_menToSplit_1 31 (53, .invokestatic 76, 3) rfl
theorem dX3_menToSplit_56 : decode cX3_menToSplit 56 = .ok (.iadd, 1) := tb_d tk_X3_menToSplit_1 32 (56, .iadd, 1) rfl
theorem dX3_menToSplit_57 : decode cX3_menToSplit 57 = .ok (.invokestatic 89, 3) := tb_d tk_X3_menToSplit_1 33 (57, .invokestatic 89, 3) rfl
theorem dX3_menToSplit_60 : decode cX3_menToSplit 60 = .ok (.istore_n 3, 1) := tb_d tk_X3_menToSplit_1 34 (60, .istore_n 3, 1) rfl
theorem dX3_menToSplit_61 : decode cX3_menToSplit 61 = .ok (.iinc 4 1, 3) := tb_d tk_X3_menToSplit_1 35 (61, .iinc 4 1, 3) rfl
theorem dX3_menToSplit_64 : decode cX3_menToSplit 64 = .ok (.goto (-57), 3) := tb_d tk_X3_menToSplit_1 36 (64, .goto (-57), 3) rfl
theorem dX3_menToSplit_67 : decode cX3_menToSplit 67 = .ok (.iload_n 3, 1) := tb_d tk_X3_menToSplit_1 37 (67, .iload_n 3, 1) rfl
theorem dX3_menToSplit_68 : decode cX3_menToSplit 68 = .ok (.ireturn, 1) := tb_d tk_X3_menToSplit_1 38 (68, .ireturn, 1) rfl
def tb_X4_init_1 : List (Nat × Instr × Nat) := [(0, .aload_n 0, 1), (1, .invokespecial 3, 3), (4, .aload_n 0, 1), (5, .iconst 4, 1), (6, .newarray .int, 2), (8, .putfield 9, 3), (11, .aload_n 0, 1), (12, .bipush 9, 2), (14, .newarray .int, 2), (16, .putfield 15, 3), (19, .aload_n 0, 1), (20, .bipush 9, 2), (22, .newarray .int, 2), (24, .putfield 18, 3), (27, .aload_n 0, 1), (28, .bipush 9, 2), (30, .newarray .int, 2), (32, .putfield 21, 3), (35, .return_, 1)]
set_option maxRecDepth 100000 in
theorem tk_X4_init_1 : (tb_X4_init_1.all fun q => decide (decode cX4_init q.1 = .ok q.2)) = true := by decide +kernel
theorem dX4_init_0 : decode cX4_init 0 = .ok (.aload_n 0, 1) := tb_d tk_X4_init_1 0 (0, .aload_n 0, 1) rfl
theorem dX4_init_1 : decode cX4_init 1 = .ok (.invokespecial 3, 3) := tb_d tk_X4_init_1 1 (1, .invokespecial 3, 3) rfl
theorem dX4_init_4 : decode cX4_init 4 = .ok (.aload_n 0, 1) := tb_d tk_X4_init_1 2 (4, .aload_n 0, 1) rfl
theorem dX4_init_5 : decode cX4_init 5 = .ok (.iconst 4, 1) := tb_d tk_X4_init_1 3 (5, .iconst 4, 1) rfl
theorem dX4_init_6 : decode cX4_init 6 = .ok (.newarray .int, 2) := tb_d tk_X4_init_1 4 (6, .newarray .int, 2) rfl
theorem dX4_init_8 : decode cX4_init 8 = .ok (.putfield 9, 3) := tb_d tk_X4_init_1 5 (8, .putfield 9, 3) rfl
theorem dX4_init_11 : decode cX4_init 11 = .ok (.aload_n 0, 1) := tb_d tk_X4_init_1 6 (11, .aload_n 0, 1) rfl
theorem dX4_init_12 : decode cX4_init 12 = .ok (.bipush 9, 2) := tb_d tk_X4_init_1 7 (12, .bipush 9, 2) rfl
theorem dX4_init_14 : decode cX4_init 14 = .ok (.newarray .int, 2) := tb_d tk_X4_init_1 8 (14, .newarray .int, 2) rfl
theorem dX4_init_16 : decode cX4_init 16 = .ok (.putfield 15, 3) := tb_d tk_X4_init_1 9 (16, .putfield 15, 3) rfl
theorem dX4_init_19 : decode cX4_init 19 = .ok (.aload_n 0, 1) := tb_d tk_X4_init_1 10 (19, .aload_n 0, 1) rfl
theorem dX4_init_20 : decode cX4_init 20 = .ok (.bipush 9, 2) := tb_d tk_X4_init_1 11 (20, .bipush 9, 2) rfl
theorem dX4_init_22 : decode cX4_init 22 = .ok (.newarray .int, 2) := tb_d tk_X4_init_1 12 (22, .newarray .int, 2) rfl
theorem dX4_init_24 : decode cX4_init 24 = .ok (.putfield 18, 3) := tb_d tk_X4_init_1 13 (24, .putfield 18, 3) rfl
theorem dX4_init_27 : decode cX4_init 27 = .ok (.aload_n 0, 1) := tb_d tk_X4_init_1 14 (27, .aload_n 0, 1) rfl
theorem dX4_init_28 : decode cX4_init 28 = .ok (.bipush 9, 2) := tb_d tk_X4_init_1 15 (28, .bipush 9, 2) rfl
theorem dX4_init_30 : decode cX4_init 30 = .ok (.newarray .int, 2) := tb_d tk_X4_init_1 16 (30, .newarray .int, 2) rfl
theorem dX4_init_32 : decode cX4_init 32 = .ok (.putfield 21, 3) := tb_d tk_X4_init_1 17 (32, .putfield 21, 3) rfl
theorem dX4_init_35 : decode cX4_init 35 = .ok (.return_, 1) := tb_d tk_X4_init_1 18 (35, .return_, 1) rfl
def tb_X4_begin_1 : List (Nat × Instr × Nat) := [(0, .aload_n 0, 1), (1, .iconst 0, 1), (2, .putfield 24, 3), (5, .aload_n 0, 1), (6, .iconst 1, 1), (7, .iload_n 1, 1), (8, .ishl, 1), (9, .iconst 1, 1), (10, .isub, 1), (11, .putfield 28, 3), (14, .aload_n 0, 1), (15, .iconst 0, 1), (16, .putfield 31, 3), (19, .iconst 0, 1), (20, .istore_n 2, 1), (21, .iload_n 2, 1), (22, .iconst 4, 1), (23, .if_icmp .ge 16, 3), (26, .aload_n 0, 1), (27, .getfield 9, 3), (30, .iload_n 2, 1), (31, .iconst 0, 1), (32, .iastore, 1), (33, .iinc 2 1, 3), (36, .goto (-15), 3), (39, .return_, 1)]
set_option maxRecDepth 100000 in
theorem tk_X4_begin_1 : (tb_X4_begin_1.all fun q => decide (decode cX4_begin q.1 = .ok q.2)) = true := by decide +kernel
theorem dX4_begin_0 : decode cX4_begin 0 = .ok (.aload_n 0, 1) := tb_d tk_X4_begin_1 0 (0, .aload_n 0, 1) rfl
theorem dX4_begin_1 : decode cX4_begin 1 = .ok (.iconst 0, 1) := tb_d tk_X4_begin_1 1 (1, .iconst 0, 1) rfl
theorem dX4_begin_2 : decode cX4_begin 2 = .ok (.putfield 24, 3) := tb_d tk_X4_begin_1 2 (2, .putfield 24, 3) rfl
theorem dX4_begin_5 : decode cX4_begin 5 = .ok (.aload_n 0, 1) := tb_d tk_X4_begin_1 3 (5, .aload_n 0, 1) rfl
theorem dX4_begin_6 : decode cX4_begin 6 = .ok (.iconst 1, 1) := tb_d tk_X4_begin_1 4 (6, .iconst 1, 1) rfl
theorem dX4_begin_7 : decode cX4_begin 7 = .ok (.iload_n 1, 1) := tb_d tk_X4_begin_1 5 (7, .iload_n 1, 1) rfl
theorem dX4_begin_8 : decode cX4_begin 8 = .ok (.ishl, 1) := tb_d tk_X4_begin_1 6 (8, .ishl, 1) rfl
theorem dX4_begin_9 : decode cX4_begin 9 = .ok (.iconst 1, 1) := tb_d tk_X4_begin_1 7 (9, .iconst 1, 1) rfl
theorem dX4_begin_10 : decode cX4_begin 10 = .ok (.isub, 1) := tb_d tk_X4_begin_1 8 (10, .isub, 1) rfl
theorem dX4_begin_11 : decode cX4_begin 11 = .ok (.putfield 28, 3) := tb_d tk_X4_begin_1 9 (11, .putfield 28, 3) rfl
theorem dX4_begin_14 : decode cX4_begin 14 = .ok (.aload_n 0, 1) := tb_d tk_X4_begin_1 10 (14, .aload_n 0, 1) rfl
theorem dX4_begin_15 : decode cX4_begin 15 = .ok (.iconst 0, 1) := tb_d tk_X4_begin_1 11 (15, .iconst 0, 1) rfl
theorem dX4_begin_16 : decode cX4_begin 16 = .ok (.putfield 31, 3) := tb_d tk_X4_begin_1 12 (16, .putfield 31, 3) rfl
theorem dX4_begin_19 : decode cX4_begin 19 = .ok (.iconst 0, 1) := tb_d tk_X4_begin_1 13 (19, .iconst 0, 1) rfl
theorem dX4_begin_20 : decode cX4_begin 20 = .ok (.istore_n 2, 1) := tb_d tk_X4_begin_1 14 (20, .istore_n 2, 1) rfl
theorem dX4_begin_21 : decode cX4_begin 21 = .ok (.iload_n 2, 1) := tb_d tk_X4_begin_1 15 (21, .iload_n 2, 1) rfl
theorem dX4_begin_22 : decode cX4_begin 22 = .ok (.iconst 4, 1) := tb_d tk_X4_begin_1 16 (22, .iconst 4, 1) rfl
theorem dX4_begin_23 : decode cX4_begin 23 = .ok (.if_icmp .ge 16, 3) := tb_d tk_X4_begin_1 17 (23, .if_icmp .ge 16, 3) rfl
theorem dX4_begin_26 : decode cX4_begin 26 = .ok (.aload_n 0, 1) := tb_d tk_X4_begin_1 18 (26, .aload_n 0, 1) rfl
theorem dX4_begin_27 : decode cX4_begin 27 = .ok (.getfield 9, 3) := tb_d tk_X4_begin_1 19 (27, .getfield 9, 3) rfl
theorem dX4_begin_30 : decode cX4_begin 30 = .ok (.iload_n 2, 1) := tb_d tk_X4_begin_1 20 (30, .iload_n 2, 1) rfl
theorem dX4_begin_31 : decode cX4_begin 31 = .ok (.iconst 0, 1) := tb_d tk_X4_begin_1 21 (31, .iconst 0, 1) rfl
theorem dX4_begin_32 : decode cX4_begin 32 = .ok (.iastore, 1) := tb_d tk_X4_begin_1 22 (32, .iastore, 1) rfl
theorem dX4_begin_33 : decode cX4_begin 33 = .ok (.iinc 2 1, 3) := tb_d tk_X4_begin_1 23 (33, .iinc 2 1, 3) rfl
theorem dX4_begin_36 : decode cX4_begin 36 = .ok (.goto (-15), 3) := tb_d tk_X4_begin_1 24 (36, .goto (-15), 3) rfl
theorem dX4_begin_39 : decode cX4_begin 39 = .ok (.return_, 1) := tb_d tk_X4_begin_1 25 (39, .return_, 1) rfl
def tb_X4_become_1 : List (Nat × Instr × Nat) := [(0, .aload_n 0, 1), (1, .aload_n 1, 1), (2, .getfield 24, 3), (5, .putfield 24, 3), (8, .aload_n 0, 1), (9, .aload_n 1, 1), (10, .getfield 34, 3), (13, .putfield 34, 3), (16, .aload_n 0, 1), (17, .aload_n 1, 1), (18, .getfield 28, 3), (21, .putfield 28, 3), (24, .aload_n 0, 1), (25, .aload_n 1, 1), (26, .getfield 31, 3), (29, .putfield 31, 3), (32, .aload_n 1, 1), (33, .getfield 9, 3), (36, .iconst 0, 1), (37, .aload_n 0, 1), (38, .getfield 9, 3), (41, .iconst 0, 1), (42, .iconst 4, 1), (43, .invokestatic 37, 3), (46, .aload_n 1, 1), (47, .getfield 15, 3), (50, .iconst 0, 1), (51, .aload_n 0, 1), (52, .getfield 15, 3), (55, .iconst 0, 1), (56, .bipush 9, 2), (58, .invokestatic 37, 3), (61, .aload_n 1, 1), (62, .getfield 18, 3), (65, .iconst 0, 1), (66, .aload_n 0, 1), (67, .getfield 18, 3), (70, .iconst 0, 1), (71, .bipush 9, 2), (73, .invokestatic 37, 3)]
set_option maxRecDepth 100000 in
theorem tk_X4_become_1 : (tb_X4_become_1.all fun q => decide (decode cX4_become q.1 = .ok q.2)) = true := by decide +kernel
theorem dX4_become_0 : decode cX4_become 0 = .ok (.aload_n 0, 1) := tb_d tk_X4_become_1 0 (0, .aload_n 0, 1) rfl
theorem dX4_become_1 : decode cX4_become 1 = .ok (.aload_n 1, 1) := tb_d tk_X4_become_1 1 (1, .aload_n 1, 1) rfl
theorem dX4_become_2 : decode cX4_become 2 = .ok (.getfield 24, 3) := tb_d tk_X4_become_1 2 (2, .getfield 24, 3) rfl
theorem dX4_become_5 : decode cX4_become 5 = .ok (.putfield 24, 3) := tb_d tk_X4_become_1 3 (5, .putfield 24, 3) rfl
theorem dX4_become_8 : decode cX4_become 8 = .ok (.aload_n 0, 1) := tb_d tk_X4_become_1 4 (8, .aload_n 0, 1) rfl
theorem dX4_become_9 : decode cX4_become 9 = .ok (.aload_n 1, 1) := tb_d tk_X4_become_1 5 (9, .aload_n 1, 1) rfl
theorem dX4_become_10 : decode cX4_become 10 = .ok (.getfield 34, 3) := tb_d tk_X4_become_1 6 (10, .getfield 34, 3) rfl
theorem dX4_become_13 : decode cX4_become 13 = .ok (.putfield 34, 3) := tb_d tk_X4_become_1 7 (13, .putfield 34, 3) rfl
theorem dX4_become_16 : decode cX4_become 16 = .ok (.aload_n 0, 1) := tb_d tk_X4_become_1 8 (16, .aload_n 0, 1) rfl
theorem dX4_become_17 : decode cX4_become 17 = .ok (.aload_n 1, 1) := tb_d tk_X4_become_1 9 (17, .aload_n 1, 1) rfl
theorem dX4_become_18 : decode cX4_become 18 = .ok (.getfield 28, 3) := tb_d tk_X4_become_1 10 (18, .getfield 28, 3) rfl
theorem dX4_become_21 : decode cX4_become 21 = .ok (.putfield 28, 3) := tb_d tk_X4_become_1 11 (21, .putfield 28, 3) rfl
theorem dX4_become_24 : decode cX4_become 24 = .ok (.aload_n 0, 1) := tb_d tk_X4_become_1 12 (24, .aload_n 0, 1) rfl
theorem dX4_become_25 : decode cX4_become 25 = .ok (.aload_n 1, 1) := tb_d tk_X4_become_1 13 (25, .aload_n 1, 1) rfl
theorem dX4_become_26 : decode cX4_become 26 = .ok (.getfield 31, 3) := tb_d tk_X4_become_1 14 (26, .getfield 31, 3) rfl
theorem dX4_become_29 : decode cX4_become 29 = .ok (.putfield 31, 3) := tb_d tk_X4_become_1 15 (29, .putfield 31, 3) rfl
theorem dX4_become_32 : decode cX4_become 32 = .ok (.aload_n 1, 1) := tb_d tk_X4_become_1 16 (32, .aload_n 1, 1) rfl
theorem dX4_become_33 : decode cX4_become 33 = .ok (.getfield 9, 3) := tb_d tk_X4_become_1 17 (33, .getfield 9, 3) rfl
theorem dX4_become_36 : decode cX4_become 36 = .ok (.iconst 0, 1) := tb_d tk_X4_become_1 18 (36, .iconst 0, 1) rfl
theorem dX4_become_37 : decode cX4_become 37 = .ok (.aload_n 0, 1) := tb_d tk_X4_become_1 19 (37, .aload_n 0, 1) rfl
theorem dX4_become_38 : decode cX4_become 38 = .ok (.getfield 9, 3) := tb_d tk_X4_become_1 20 (38, .getfield 9, 3) rfl
theorem dX4_become_41 : decode cX4_become 41 = .ok (.iconst 0, 1) := tb_d tk_X4_become_1 21 (41, .iconst 0, 1) rfl
theorem dX4_become_42 : decode cX4_become 42 = .ok (.iconst 4, 1) := tb_d tk_X4_become_1 22 (42, .iconst 4, 1) rfl
theorem dX4_become_43 : decode cX4_become 43 = .ok (.invokestatic 37, 3) := tb_d tk_X4_become_1 23 (43, .invokestatic 37, 3) rfl
theorem dX4_become_46 : decode cX4_become 46 = .ok (.aload_n 1, 1) := tb_d tk_X4_become_1 24 (46, .aload_n 1, 1) rfl
theorem dX4_become_47 : decode cX4_become 47 = .ok (.getfield 15, 3) := tb_d tk_X4_become_1 25 (47, .getfield 15, 3) rfl
theorem dX4_become_50 : decode cX4_become 50 = .ok (.iconst 0, 1) := tb_d tk_X4_become_1 26 (50, .iconst 0, 1) rfl
theorem dX4_become_51 : decode cX4_become 51 = .ok (.aload_n 0, 1) := tb_d tk_X4_become_1 27 (51, .aload_n 0, 1) rfl
theorem dX4_become_52 : decode cX4_become 52 = .ok (.getfield 15, 3) := tb_d tk_X4_become_1 28 (52, .getfield 15, 3) rfl
theorem dX4_become_55 : decode cX4_become 55 = .ok (.iconst 0, 1) := tb_d tk_X4_become_1 29 (55, .iconst 0, 1) rfl
theorem dX4_become_56 : decode cX4_become 56 = .ok (.bipush 9, 2) := tb_d tk_X4_become_1 30 (56, .bipush 9, 2) rfl
theorem dX4_become_58 : decode cX4_become 58 = .ok (.invokestatic 37, 3) := tb_d tk_X4_become_1 31 (58, .invokestatic 37, 3) rfl
theorem dX4_become_61 : decode cX4_become 61 = .ok (.aload_n 1, 1) := tb_d tk_X4_become_1 32 (61, .aload_n 1, 1) rfl
theorem dX4_become_62 : decode cX4_become 62 = .ok (.getfield 18, 3) := tb_d tk_X4_become_1 33 (62, .getfield 18, 3) rfl
theorem dX4_become_65 : decode cX4_become 65 = .ok (.iconst 0, 1) := tb_d tk_X4_become_1 34 (65, .iconst 0, 1) rfl
theorem dX4_become_66 : decode cX4_become 66 = .ok (.aload_n 0, 1) := tb_d tk_X4_become_1 35 (66, .aload_n 0, 1) rfl
theorem dX4_become_67 : decode cX4_become 67 = .ok (.getfield 18, 3) := tb_d tk_X4_become_1 36 (67, .getfield 18, 3) rfl
theorem dX4_become_70 : decode cX4_become 70 = .ok (.iconst 0, 1) := tb_d tk_X4_become_1 37 (70, .iconst 0, 1) rfl
theorem dX4_become_71 : decode cX4_become 71 = .ok (.bipush 9, 2) := tb_d tk_X4_become_1 38 (71, .bipush 9, 2) rfl
theorem dX4_become_73 : decode cX4_become 73 = .ok (.invokestatic 37, 3) := tb_d tk_X4_become_1 39 (73, .invokestatic 37, 3) rfl
def tb_X4_become_2 : List (Nat × Instr × Nat) := [(76, .aload_n 1, 1), (77, .getfield 21, 3), (80, .iconst 0, 1), (81, .aload_n 0, 1), (82, .getfield 21, 3), (85, .iconst 0, 1), (86, .bipush 9, 2), (88, .invokestatic 37, 3), (91, .return_, 1)]
set_option maxRecDepth 100000 in
theorem tk_X4_become_2 : (tb_X4_become_2.all fun q => decide (decode cX4_become q.1 = .ok q.2)) = true := by decide +kernel
theorem dX4_become_76 : decode cX4_become 76 = .ok (.aload_n 1, 1) := tb_d tk_X4_become_2 0 (76, .aload_n 1, 1) rfl
theorem dX4_become_77 : decode cX4_become 77 = .ok (.getfield 21, 3) := tb_d tk_X4_become_2 1 (77, .getfield 21, 3) rfl
theorem dX4_become_80 : decode cX4_become 80 = .ok (.iconst 0, 1) := tb_d tk_X4_become_2 2 (80, .iconst 0, 1) rfl
theorem dX4_become_81 : decode cX4_become 81 = .ok (.aload_n 0, 1) := tb_d tk_X4_become_2 3 (81, .aload_n 0, 1) rfl
theorem dX4_become_82 : decode cX4_become 82 = .ok (.getfield 21, 3) := tb_d tk_X4_become_2 4 (82, .getfield 21, 3) rfl
theorem dX4_become_85 : decode cX4_become 85 = .ok (.iconst 0, 1) := tb_d tk_X4_become_2 5 (85, .iconst 0, 1) rfl
theorem dX4_become_86 : decode cX4_become 86 = .ok (.bipush 9, 2) := tb_d tk_X4_become_2 6 (86, .bipush 9, 2) rfl
theorem dX4_become_88 : decode cX4_become 88 = .ok (.invokestatic 37, 3) := tb_d tk_X4_become_2 7 (88, .invokestatic 37, 3) rfl
theorem dX4_become_91 : decode cX4_become 91 = .ok (.return_, 1) := tb_d tk_X4_become_2 8 (91, .return_, 1) rfl
def tb_X4_goBy_1 : List (Nat × Instr × Nat) := [(0, .aload_n 0, 1), (1, .dup, 1), (2, .getfield 24, 3), (5, .iconst 1, 1), (6, .iadd, 1), (7, .putfield 24, 3), (10, .aload_n 0, 1), (11, .iconst 0, 1), (12, .putfield 31, 3), (15, .return_, 1)]
set_option maxRecDepth 100000 in
theorem tk_X4_goBy_1 : (tb_X4_goBy_1.all fun q => decide (decode cX4_goBy q.1 = .ok q.2)) = true := by decide +kernel
theorem dX4_goBy_0 : decode cX4_goBy 0 = .ok (.aload_n 0, 1) := tb_d tk_X4_goBy_1 0 (0, .aload_n 0, 1) rfl
theorem dX4_goBy_1 : decode cX4_goBy 1 = .ok (.dup, 1) := tb_d tk_X4_goBy_1 1 (1, .dup, 1) rfl
theorem dX4_goBy_2 : decode cX4_goBy 2 = .ok (.getfield 24, 3) := tb_d tk_X4_goBy_1 2 (2, .getfield 24, 3) rfl
theorem dX4_goBy_5 : decode cX4_goBy 5 = .ok (.iconst 1, 1) := tb_d tk_X4_goBy_1 3 (5, .iconst 1, 1) rfl
theorem dX4_goBy_6 : decode cX4_goBy 6 = .ok (.iadd, 1) := tb_d tk_X4_goBy_1 4 (6, .iadd, 1) rfl
theorem dX4_goBy_7 : decode cX4_goBy 7 = .ok (.putfield 24, 3) := tb_d tk_X4_goBy_1 5 (7, .putfield 24, 3) rfl
theorem dX4_goBy_10 : decode cX4_goBy 10 = .ok (.aload_n 0, 1) := tb_d tk_X4_goBy_1 6 (10, .aload_n 0, 1) rfl
theorem dX4_goBy_11 : decode cX4_goBy 11 = .ok (.iconst 0, 1) := tb_d tk_X4_goBy_1 7 (11, .iconst 0, 1) rfl
theorem dX4_goBy_12 : decode cX4_goBy 12 = .ok (.putfield 31, 3) := tb_d tk_X4_goBy_1 8 (12, .putfield 31, 3) rfl
theorem dX4_goBy_15 : decode cX4_goBy 15 = .ok (.return_, 1) := tb_d tk_X4_goBy_1 9 (15, .return_, 1) rfl
set_option maxRecDepth 20000 in
theorem ggX4_addTry_X7_bit : GoodIn wsX4_addTry wsX7_bit := goodIn_r _ [8] (by decide +kernel) (by decide +kernel)
set_option maxRecDepth 20000 in
theorem gX4_addTry_X7_bit_n43 : GoodIn wsX4_addTry (wsX7_bit) := ggX4_addTry_X7_bit
def tb_X4_addTry_1 : List (Nat × Instr × Nat) := [(0, .aload_n 0, 1), (1, .getfield 31, 3), (4, .bipush 9, 2), (6, .if_icmp .lt 4, 3), (9, .return_, 1), (10, .aload_n 0, 1), (11, .getfield 15, 3), (14, .aload_n 0, 1), (15, .getfield 31, 3), (18, .iload_n 1, 1), (19, .iastore, 1), (20, .aload_n 0, 1), (21, .getfield 18, 3), (24, .aload_n 0, 1), (25, .getfield 31, 3), (28, .iload_n 2, 1), (29, .iastore, 1), (30, .aload_n 0, 1), (31, .getfield 21, 3), (34, .aload_n 0, 1), (35, .getfield 31, 3), (38, .iload_n 3, 1), (39, .invokestatic 43, 3), (42, .iastore, 1), (43, .aload_n 0, 1), (44, .dup, 1), (45, .getfield 31, 3), (48, .iconst 1, 1), (49, .iadd, 1), (50, .putfield 31, 3), (53, .iload_n 3, 1), (54, .ifCond .eq 22, 3), (57, .iload_n 2, 1), (58, .ifCond .lt 18, 3), (61, .iload_n 2, 1), (62, .iconst 4, 1), (63, .if_icmp .ge 13, 3), (66, .aload_n 0, 1), (67, .getfield 9, 3), (70, .iload_n 2, 1)]
set_option maxRecDepth 100000 in
theorem tk_X4_addTry_1 : (tb_X4_addTry_1.all fun q => decide (decode cX4_addTry q.1 = .ok q.2)) = true := by decide +kernel
theorem dX4_addTry_0 : decode cX4_addTry 0 = .ok (.aload_n 0, 1) := tb_d tk_X4_addTry_1 0 (0, .aload_n 0, 1) rfl
theorem dX4_addTry_1 : decode cX4_addTry 1 = .ok (.getfield 31, 3) := tb_d tk_X4_addTry_1 1 (1, .getfield 31, 3) rfl
theorem dX4_addTry_4 : decode cX4_addTry 4 = .ok (.bipush 9, 2) := tb_d tk_X4_addTry_1 2 (4, .bipush 9, 2) rfl
theorem dX4_addTry_6 : decode cX4_addTry 6 = .ok (.if_icmp .lt 4, 3) := tb_d tk_X4_addTry_1 3 (6, .if_icmp .lt 4, 3) rfl
theorem dX4_addTry_9 : decode cX4_addTry 9 = .ok (.return_, 1) := tb_d tk_X4_addTry_1 4 (9, .return_, 1) rfl
theorem dX4_addTry_10 : decode cX4_addTry 10 = .ok (.aload_n 0, 1) := tb_d tk_X4_addTry_1 5 (10, .aload_n 0, 1) rfl
theorem dX4_addTry_11 : decode cX4_addTry 11 = .ok (.getfield 15, 3) := tb_d tk_X4_addTry_1 6 (11, .getfield 15, 3) rfl
theorem dX4_addTry_14 : decode cX4_addTry 14 = .ok (.aload_n 0, 1) := tb_d tk_X4_addTry_1 7 (14, .aload_n 0, 1) rfl
theorem dX4_addTry_15 : decode cX4_addTry 15 = .ok (.getfield 31, 3) := tb_d tk_X4_addTry_1 8 (15, .getfield 31, 3) rfl
theorem dX4_addTry_18 : decode cX4_addTry 18 = .ok (.iload_n 1, 1) := tb_d tk_X4_addTry_1 9 (18, .iload_n 1, 1) rfl
theorem dX4_addTry_19 : decode cX4_addTry 19 = .ok (.iastore, 1) := tb_d tk_X4_addTry_1 10 (19, .iastore, 1) rfl
theorem dX4_addTry_20 : decode cX4_addTry 20 = .ok (.aload_n 0, 1) := tb_d tk_X4_addTry_1 11 (20, .aload_n 0, 1) rfl
theorem dX4_addTry_21 : decode cX4_addTry 21 = .ok (.getfield 18, 3) := tb_d tk_X4_addTry_1 12 (21, .getfield 18, 3) rfl
theorem dX4_addTry_24 : decode cX4_addTry 24 = .ok (.aload_n 0, 1) := tb_d tk_X4_addTry_1 13 (24, .aload_n 0, 1) rfl
theorem dX4_addTry_25 : decode cX4_addTry 25 = .ok (.getfield 31, 3) := tb_d tk_X4_addTry_1 14 (25, .getfield 31, 3) rfl
theorem dX4_addTry_28 : decode cX4_addTry 28 = .ok (.iload_n 2, 1) := tb_d tk_X4_addTry_1 15 (28, .iload_n 2, 1) rfl
theorem dX4_addTry_29 : decode cX4_addTry 29 = .ok (.iastore, 1) := tb_d tk_X4_addTry_1 16 (29, .iastore, 1) rfl
theorem dX4_addTry_30 : decode cX4_addTry 30 = .ok (.aload_n 0, 1) := tb_d tk_X4_addTry_1 17 (30, .aload_n 0, 1) rfl
theorem dX4_addTry_31 : decode cX4_addTry 31 = .ok (.getfield 21, 3) := tb_d tk_X4_addTry_1 18 (31, .getfield 21, 3) rfl
theorem dX4_addTry_34 : decode cX4_addTry 34 = .ok (.aload_n 0, 1) := tb_d tk_X4_addTry_1 19 (34, .aload_n 0, 1) rfl
theorem dX4_addTry_35 : decode cX4_addTry 35 = .ok (.getfield 31, 3) := tb_d tk_X4_addTry_1 20 (35, .getfield 31, 3) rfl
theorem dX4_addTry_38 : decode cX4_addTry 38 = .ok (.iload_n 3, 1) := tb_d tk_X4_addTry_1 21 (38, .iload_n 3, 1) rfl
theorem dX4_addTry_39 : decode cX4_addTry 39 = .ok (.invokestatic 43, 3) := tb_d tk_X4_addTry_1 22 (39, .invokestatic 43, 3) rfl
theorem dX4_addTry_42 : decode cX4_addTry 42 = .ok (.iastore, 1) := tb_d tk_X4_addTry_1 23 (42, .iastore, 1) rfl
theorem dX4_addTry_43 : decode cX4_addTry 43 = .ok (.aload_n 0, 1) := tb_d tk_X4_addTry_1 24 (43, .aload_n 0, 1) rfl
theorem dX4_addTry_44 : decode cX4_addTry 44 = .ok (.dup, 1) := tb_d tk_X4_addTry_1 25 (44, .dup, 1) rfl
theorem dX4_addTry_45 : decode cX4_addTry 45 = .ok (.getfield 31, 3) := tb_d tk_X4_addTry_1 26 (45, .getfield 31, 3) rfl
theorem dX4_addTry_48 : decode cX4_addTry 48 = .ok (.iconst 1, 1) := tb_d tk_X4_addTry_1 27 (48, .iconst 1, 1) rfl
theorem dX4_addTry_49 : decode cX4_addTry 49 = .ok (.iadd, 1) := tb_d tk_X4_addTry_1 28 (49, .iadd, 1) rfl
theorem dX4_addTry_50 : decode cX4_addTry 50 = .ok (.putfield 31, 3) := tb_d tk_X4_addTry_1 29 (50, .putfield 31, 3) rfl
theorem dX4_addTry_53 : decode cX4_addTry 53 = .ok (.iload_n 3, 1) := tb_d tk_X4_addTry_1 30 (53, .iload_n 3, 1) rfl
theorem dX4_addTry_54 : decode cX4_addTry 54 = .ok (.ifCond .eq 22, 3) := tb_d tk_X4_addTry_1 31 (54, .ifCond .eq 22, 3) rfl
theorem dX4_addTry_57 : decode cX4_addTry 57 = .ok (.iload_n 2, 1) := tb_d tk_X4_addTry_1 32 (57, .iload_n 2, 1) rfl
theorem dX4_addTry_58 : decode cX4_addTry 58 = .ok (.ifCond .lt 18, 3) := tb_d tk_X4_addTry_1 33 (58, .ifCond .lt 18, 3) rfl
theorem dX4_addTry_61 : decode cX4_addTry 61 = .ok (.iload_n 2, 1) := tb_d tk_X4_addTry_1 34 (61, .iload_n 2, 1) rfl
theorem dX4_addTry_62 : decode cX4_addTry 62 = .ok (.iconst 4, 1) := tb_d tk_X4_addTry_1 35 (62, .iconst 4, 1) rfl
theorem dX4_addTry_63 : decode cX4_addTry 63 = .ok (.if_icmp .ge 13, 3) := tb_d tk_X4_addTry_1 36 (63, .if_icmp .ge 13, 3) rfl
theorem dX4_addTry_66 : decode cX4_addTry 66 = .ok (.aload_n 0, 1) := tb_d tk_X4_addTry_1 37 (66, .aload_n 0, 1) rfl
theorem dX4_addTry_67 : decode cX4_addTry 67 = .ok (.getfield 9, 3) := tb_d tk_X4_addTry_1 38 (67, .getfield 9, 3) rfl
theorem dX4_addTry_70 : decode cX4_addTry 70 = .ok (.iload_n 2, 1) := tb_d tk_X4_addTry_1 39 (70, .iload_n 2, 1) rfl
def tb_X4_addTry_2 : List (Nat × Instr × Nat) := [(71, .dup2, 1), (72, .iaload, 1), (73, .iconst 1, 1), (74, .iadd, 1), (75, .iastore, 1), (76, .return_, 1)]
set_option maxRecDepth 100000 in
theorem tk_X4_addTry_2 : (tb_X4_addTry_2.all fun q => decide (decode cX4_addTry q.1 = .ok q.2)) = true := by decide +kernel
theorem dX4_addTry_71 : decode cX4_addTry 71 = .ok (.dup2, 1) := tb_d tk_X4_addTry_2 0 (71, .dup2, 1) rfl
theorem dX4_addTry_72 : decode cX4_addTry 72 = .ok (.iaload, 1) := tb_d tk_X4_addTry_2 1 (72, .iaload, 1) rfl
theorem dX4_addTry_73 : decode cX4_addTry 73 = .ok (.iconst 1, 1) := tb_d tk_X4_addTry_2 2 (73, .iconst 1, 1) rfl
theorem dX4_addTry_74 : decode cX4_addTry 74 = .ok (.iadd, 1) := tb_d tk_X4_addTry_2 3 (74, .iadd, 1) rfl
theorem dX4_addTry_75 : decode cX4_addTry 75 = .ok (.iastore, 1) := tb_d tk_X4_addTry_2 4 (75, .iastore, 1) rfl
theorem dX4_addTry_76 : decode cX4_addTry 76 = .ok (.return_, 1) := tb_d tk_X4_addTry_2 5 (76, .return_, 1) rfl
def tb_X4_tookInAll_1 : List (Nat × Instr × Nat) := [(0, .iconst 0, 1), (1, .istore_n 1, 1), (2, .iconst 0, 1), (3, .istore_n 2, 1), (4, .iload_n 2, 1), (5, .iconst 4, 1), (6, .if_icmp .ge 18, 3), (9, .iload_n 1, 1), (10, .aload_n 0, 1), (11, .getfield 9, 3), (14, .iload_n 2, 1), (15, .iaload, 1), (16, .iadd, 1), (17, .istore_n 1, 1), (18, .iinc 2 1, 3), (21, .goto (-17), 3), (24, .iload_n 1, 1), (25, .ireturn, 1)]
set_option maxRecDepth 100000 in
theorem tk_X4_tookInAll_1 : (tb_X4_tookInAll_1.all fun q => decide (decode cX4_tookInAll q.1 = .ok q.2)) = true := by decide +kernel
theorem dX4_tookInAll_0 : decode cX4_tookInAll 0 = .ok (.iconst 0, 1) := tb_d tk_X4_tookInAll_1 0 (0, .iconst 0, 1) rfl
theorem dX4_tookInAll_1 : decode cX4_tookInAll 1 = .ok (.istore_n 1, 1) := tb_d tk_X4_tookInAll_1 1 (1, .istore_n 1, 1) rfl
theorem dX4_tookInAll_2 : decode cX4_tookInAll 2 = .ok (.iconst 0, 1) := tb_d tk_X4_tookInAll_1 2 (2, .iconst 0, 1) rfl
theorem dX4_tookInAll_3 : decode cX4_tookInAll 3 = .ok (.istore_n 2, 1) := tb_d tk_X4_tookInAll_1 3 (3, .istore_n 2, 1) rfl
theorem dX4_tookInAll_4 : decode cX4_tookInAll 4 = .ok (.iload_n 2, 1) := tb_d tk_X4_tookInAll_1 4 (4, .iload_n 2, 1) rfl
theorem dX4_tookInAll_5 : decode cX4_tookInAll 5 = .ok (.iconst 4, 1) := tb_d tk_X4_tookInAll_1 5 (5, .iconst 4, 1) rfl
theorem dX4_tookInAll_6 : decode cX4_tookInAll 6 = .ok (.if_icmp .ge 18, 3) := tb_d tk_X4_tookInAll_1 6 (6, .if_icmp .ge 18, 3) rfl
theorem dX4_tookInAll_9 : decode cX4_tookInAll 9 = .ok (.iload_n 1, 1) := tb_d tk_X4_tookInAll_1 7 (9, .iload_n 1, 1) rfl
theorem dX4_tookInAll_10 : decode cX4_tookInAll 10 = .ok (.aload_n 0, 1) := tb_d tk_X4_tookInAll_1 8 (10, .aload_n 0, 1) rfl
theorem dX4_tookInAll_11 : decode cX4_tookInAll 11 = .ok (.getfield 9, 3) := tb_d tk_X4_tookInAll_1 9 (11, .getfield 9, 3) rfl
theorem dX4_tookInAll_14 : decode cX4_tookInAll 14 = .ok (.iload_n 2, 1) := tb_d tk_X4_tookInAll_1 10 (14, .iload_n 2, 1) rfl
theorem dX4_tookInAll_15 : decode cX4_tookInAll 15 = .ok (.iaload, 1) := tb_d tk_X4_tookInAll_1 11 (15, .iaload, 1) rfl
theorem dX4_tookInAll_16 : decode cX4_tookInAll 16 = .ok (.iadd, 1) := tb_d tk_X4_tookInAll_1 12 (16, .iadd, 1) rfl
theorem dX4_tookInAll_17 : decode cX4_tookInAll 17 = .ok (.istore_n 1, 1) := tb_d tk_X4_tookInAll_1 13 (17, .istore_n 1, 1) rfl
theorem dX4_tookInAll_18 : decode cX4_tookInAll 18 = .ok (.iinc 2 1, 3) := tb_d tk_X4_tookInAll_1 14 (18, .iinc 2 1, 3) rfl
theorem dX4_tookInAll_21 : decode cX4_tookInAll 21 = .ok (.goto (-17), 3) := tb_d tk_X4_tookInAll_1 15 (21, .goto (-17), 3) rfl
theorem dX4_tookInAll_24 : decode cX4_tookInAll 24 = .ok (.iload_n 1, 1) := tb_d tk_X4_tookInAll_1 16 (24, .iload_n 1, 1) rfl
theorem dX4_tookInAll_25 : decode cX4_tookInAll 25 = .ok (.ireturn, 1) := tb_d tk_X4_tookInAll_1 17 (25, .ireturn, 1) rfl
def tb_X5_init_1 : List (Nat × Instr × Nat) := [(0, .aload_n 0, 1), (1, .invokespecial 3, 3), (4, .aload_n 0, 1), (5, .bipush 40, 2), (7, .newarray .int, 2), (9, .putfield 9, 3), (12, .aload_n 0, 1), (13, .iconst (-1), 1), (14, .putfield 15, 3), (17, .return_, 1)]
set_option maxRecDepth 100000 in
theorem tk_X5_init_1 : (tb_X5_init_1.all fun q => decide (decode cX5_init q.1 = .ok q.2)) = true := by decide +kernel
theorem dX5_init_0 : decode cX5_init 0 = .ok (.aload_n 0, 1) := tb_d tk_X5_init_1 0 (0, .aload_n 0, 1) rfl
theorem dX5_init_1 : decode cX5_init 1 = .ok (.invokespecial 3, 3) := tb_d tk_X5_init_1 1 (1, .invokespecial 3, 3) rfl
theorem dX5_init_4 : decode cX5_init 4 = .ok (.aload_n 0, 1) := tb_d tk_X5_init_1 2 (4, .aload_n 0, 1) rfl
theorem dX5_init_5 : decode cX5_init 5 = .ok (.bipush 40, 2) := tb_d tk_X5_init_1 3 (5, .bipush 40, 2) rfl
theorem dX5_init_7 : decode cX5_init 7 = .ok (.newarray .int, 2) := tb_d tk_X5_init_1 4 (7, .newarray .int, 2) rfl
theorem dX5_init_9 : decode cX5_init 9 = .ok (.putfield 9, 3) := tb_d tk_X5_init_1 5 (9, .putfield 9, 3) rfl
theorem dX5_init_12 : decode cX5_init 12 = .ok (.aload_n 0, 1) := tb_d tk_X5_init_1 6 (12, .aload_n 0, 1) rfl
theorem dX5_init_13 : decode cX5_init 13 = .ok (.iconst (-1), 1) := tb_d tk_X5_init_1 7 (13, .iconst (-1), 1) rfl
theorem dX5_init_14 : decode cX5_init 14 = .ok (.putfield 15, 3) := tb_d tk_X5_init_1 8 (14, .putfield 15, 3) rfl
theorem dX5_init_17 : decode cX5_init 17 = .ok (.return_, 1) := tb_d tk_X5_init_1 9 (17, .return_, 1) rfl
def tb_X5_make_1 : List (Nat × Instr × Nat) := [(0, .aload_n 0, 1), (1, .iload_n 1, 1), (2, .putfield 15, 3), (5, .aload_n 0, 1), (6, .iload_n 2, 1), (7, .putfield 19, 3), (10, .iconst 0, 1), (11, .istore_n 3, 1), (12, .iload_n 3, 1), (13, .bipush 40, 2), (15, .if_icmp .ge 16, 3), (18, .aload_n 0, 1), (19, .getfield 9, 3), (22, .iload_n 3, 1), (23, .iconst 0, 1), (24, .iastore, 1), (25, .iinc 3 1, 3), (28, .goto (-16), 3), (31, .return_, 1)]
set_option maxRecDepth 100000 in
theorem tk_X5_make_1 : (tb_X5_make_1.all fun q => decide (decode cX5_make q.1 = .ok q.2)) = true := by decide +kernel
theorem dX5_make_0 : decode cX5_make 0 = .ok (.aload_n 0, 1) := tb_d tk_X5_make_1 0 (0, .aload_n 0, 1) rfl
theorem dX5_make_1 : decode cX5_make 1 = .ok (.iload_n 1, 1) := tb_d tk_X5_make_1 1 (1, .iload_n 1, 1) rfl
theorem dX5_make_2 : decode cX5_make 2 = .ok (.putfield 15, 3) := tb_d tk_X5_make_1 2 (2, .putfield 15, 3) rfl
theorem dX5_make_5 : decode cX5_make 5 = .ok (.aload_n 0, 1) := tb_d tk_X5_make_1 3 (5, .aload_n 0, 1) rfl
theorem dX5_make_6 : decode cX5_make 6 = .ok (.iload_n 2, 1) := tb_d tk_X5_make_1 4 (6, .iload_n 2, 1) rfl
theorem dX5_make_7 : decode cX5_make 7 = .ok (.putfield 19, 3) := tb_d tk_X5_make_1 5 (7, .putfield 19, 3) rfl
theorem dX5_make_10 : decode cX5_make 10 = .ok (.iconst 0, 1) := tb_d tk_X5_make_1 6 (10, .iconst 0, 1) rfl
theorem dX5_make_11 : decode cX5_make 11 = .ok (.istore_n 3, 1) := tb_d tk_X5_make_1 7 (11, .istore_n 3, 1) rfl
theorem dX5_make_12 : decode cX5_make 12 = .ok (.iload_n 3, 1) := tb_d tk_X5_make_1 8 (12, .iload_n 3, 1) rfl
theorem dX5_make_13 : decode cX5_make 13 = .ok (.bipush 40, 2) := tb_d tk_X5_make_1 9 (13, .bipush 40, 2) rfl
theorem dX5_make_15 : decode cX5_make 15 = .ok (.if_icmp .ge 16, 3) := tb_d tk_X5_make_1 10 (15, .if_icmp .ge 16, 3) rfl
theorem dX5_make_18 : decode cX5_make 18 = .ok (.aload_n 0, 1) := tb_d tk_X5_make_1 11 (18, .aload_n 0, 1) rfl
theorem dX5_make_19 : decode cX5_make 19 = .ok (.getfield 9, 3) := tb_d tk_X5_make_1 12 (19, .getfield 9, 3) rfl
theorem dX5_make_22 : decode cX5_make 22 = .ok (.iload_n 3, 1) := tb_d tk_X5_make_1 13 (22, .iload_n 3, 1) rfl
theorem dX5_make_23 : decode cX5_make 23 = .ok (.iconst 0, 1) := tb_d tk_X5_make_1 14 (23, .iconst 0, 1) rfl
theorem dX5_make_24 : decode cX5_make 24 = .ok (.iastore, 1) := tb_d tk_X5_make_1 15 (24, .iastore, 1) rfl
theorem dX5_make_25 : decode cX5_make 25 = .ok (.iinc 3 1, 3) := tb_d tk_X5_make_1 16 (25, .iinc 3 1, 3) rfl
theorem dX5_make_28 : decode cX5_make 28 = .ok (.goto (-16), 3) := tb_d tk_X5_make_1 17 (28, .goto (-16), 3) rfl
theorem dX5_make_31 : decode cX5_make 31 = .ok (.return_, 1) := tb_d tk_X5_make_1 18 (31, .return_, 1) rfl
def tb_X5_reaches_1 : List (Nat × Instr × Nat) := [(0, .iload_n 1, 1), (1, .ifCond .lt 21, 3), (4, .iload_n 2, 1), (5, .ifCond .lt 17, 3), (8, .iload_n 1, 1), (9, .aload_n 0, 1), (10, .getfield 19, 3), (13, .iload_n 2, 1), (14, .isub, 1), (15, .if_icmp .gt 7, 3), (18, .iconst 1, 1), (19, .goto 4, 3), (22, .iconst 0, 1), (23, .ireturn, 1)]
set_option maxRecDepth 100000 in
theorem tk_X5_reaches_1 : (tb_X5_reaches_1.all fun q => decide (decode cX5_reaches q.1 = .ok q.2)) = true := by decide +kernel
theorem dX5_reaches_0 : decode cX5_reaches 0 = .ok (.iload_n 1, 1) := tb_d tk_X5_reaches_1 0 (0, .iload_n 1, 1) rfl
theorem dX5_reaches_1 : decode cX5_reaches 1 = .ok (.ifCond .lt 21, 3) := tb_d tk_X5_reaches_1 1 (1, .ifCond .lt 21, 3) rfl
theorem dX5_reaches_4 : decode cX5_reaches 4 = .ok (.iload_n 2, 1) := tb_d tk_X5_reaches_1 2 (4, .iload_n 2, 1) rfl
theorem dX5_reaches_5 : decode cX5_reaches 5 = .ok (.ifCond .lt 17, 3) := tb_d tk_X5_reaches_1 3 (5, .ifCond .lt 17, 3) rfl
theorem dX5_reaches_8 : decode cX5_reaches 8 = .ok (.iload_n 1, 1) := tb_d tk_X5_reaches_1 4 (8, .iload_n 1, 1) rfl
theorem dX5_reaches_9 : decode cX5_reaches 9 = .ok (.aload_n 0, 1) := tb_d tk_X5_reaches_1 5 (9, .aload_n 0, 1) rfl
theorem dX5_reaches_10 : decode cX5_reaches 10 = .ok (.getfield 19, 3) := tb_d tk_X5_reaches_1 6 (10, .getfield 19, 3) rfl
theorem dX5_reaches_13 : decode cX5_reaches 13 = .ok (.iload_n 2, 1) := tb_d tk_X5_reaches_1 7 (13, .iload_n 2, 1) rfl
theorem dX5_reaches_14 : decode cX5_reaches 14 = .ok (.isub, 1) := tb_d tk_X5_reaches_1 8 (14, .isub, 1) rfl
theorem dX5_reaches_15 : decode cX5_reaches 15 = .ok (.if_icmp .gt 7, 3) := tb_d tk_X5_reaches_1 9 (15, .if_icmp .gt 7, 3) rfl
theorem dX5_reaches_18 : decode cX5_reaches 18 = .ok (.iconst 1, 1) := tb_d tk_X5_reaches_1 10 (18, .iconst 1, 1) rfl
theorem dX5_reaches_19 : decode cX5_reaches 19 = .ok (.goto 4, 3) := tb_d tk_X5_reaches_1 11 (19, .goto 4, 3) rfl
theorem dX5_reaches_22 : decode cX5_reaches 22 = .ok (.iconst 0, 1) := tb_d tk_X5_reaches_1 12 (22, .iconst 0, 1) rfl
theorem dX5_reaches_23 : decode cX5_reaches 23 = .ok (.ireturn, 1) := tb_d tk_X5_reaches_1 13 (23, .ireturn, 1) rfl
set_option maxRecDepth 20000 in
theorem ggX5_findingOf_X5_reaches : GoodIn wsX5_findingOf wsX5_reaches := goodIn_r _ [6, 7, 8, 9, 10] (by decide +kernel) (by decide +kernel)
set_option maxRecDepth 20000 in
theorem gX5_findingOf_X5_reaches : GoodIn wsX5_findingOf (wsV RX5 22 RX5 yX5_reaches wsX5_reaches) := goodIn_app (goodIn_of _ (by decide +kernel)) ggX5_findingOf_X5_reaches
def tb_X5_findingOf_1 : List (Nat × Instr × Nat) := [(0, .aload_n 0, 1), (1, .getfield 15, 3), (4, .iconst (-1), 1), (5, .if_icmp .ne 5, 3), (8, .iconst 1, 1), (9, .ireturn, 1), (10, .aload_n 0, 1), (11, .iload_n 1, 1), (12, .iload_n 2, 1), (13, .invokevirtual 22, 3), (16, .ifCond .eq 7, 3), (19, .iconst 0, 1), (20, .goto 4, 3), (23, .iconst 2, 1), (24, .ireturn, 1)]
set_option maxRecDepth 100000 in
theorem tk_X5_findingOf_1 : (tb_X5_findingOf_1.all fun q => decide (decode cX5_findingOf q.1 = .ok q.2)) = true := by decide +kernel
theorem dX5_findingOf_0 : decode cX5_findingOf 0 = .ok (.aload_n 0, 1) := tb_d tk_X5_findingOf_1 0 (0, .aload_n 0, 1) rfl
theorem dX5_findingOf_1 : decode cX5_findingOf 1 = .ok (.getfield 15, 3) := tb_d tk_X5_findingOf_1 1 (1, .getfield 15, 3) rfl
theorem dX5_findingOf_4 : decode cX5_findingOf 4 = .ok (.iconst (-1), 1) := tb_d tk_X5_findingOf_1 2 (4, .iconst (-1), 1) rfl
theorem dX5_findingOf_5 : decode cX5_findingOf 5 = .ok (.if_icmp .ne 5, 3) := tb_d tk_X5_findingOf_1 3 (5, .if_icmp .ne 5, 3) rfl
theorem dX5_findingOf_8 : decode cX5_findingOf 8 = .ok (.iconst 1, 1) := tb_d tk_X5_findingOf_1 4 (8, .iconst 1, 1) rfl
theorem dX5_findingOf_9 : decode cX5_findingOf 9 = .ok (.ireturn, 1) := tb_d tk_X5_findingOf_1 5 (9, .ireturn, 1) rfl
theorem dX5_findingOf_10 : decode cX5_findingOf 10 = .ok (.aload_n 0, 1) := tb_d tk_X5_findingOf_1 6 (10, .aload_n 0, 1) rfl
theorem dX5_findingOf_11 : decode cX5_findingOf 11 = .ok (.iload_n 1, 1) := tb_d tk_X5_findingOf_1 7 (11, .iload_n 1, 1) rfl
theorem dX5_findingOf_12 : decode cX5_findingOf 12 = .ok (.iload_n 2, 1) := tb_d tk_X5_findingOf_1 8 (12, .iload_n 2, 1) rfl
theorem dX5_findingOf_13 : decode cX5_findingOf 13 = .ok (.invokevirtual 22, 3) := tb_d tk_X5_findingOf_1 9 (13, .invokevirtual 22, 3) rfl
theorem dX5_findingOf_16 : decode cX5_findingOf 16 = .ok (.ifCond .eq 7, 3) := tb_d tk_X5_findingOf_1 10 (16, .ifCond .eq 7, 3) rfl
theorem dX5_findingOf_19 : decode cX5_findingOf 19 = .ok (.iconst 0, 1) := tb_d tk_X5_findingOf_1 11 (19, .iconst 0, 1) rfl
theorem dX5_findingOf_20 : decode cX5_findingOf 20 = .ok (.goto 4, 3) := tb_d tk_X5_findingOf_1 12 (20, .goto 4, 3) rfl
theorem dX5_findingOf_23 : decode cX5_findingOf 23 = .ok (.iconst 2, 1) := tb_d tk_X5_findingOf_1 13 (23, .iconst 2, 1) rfl
theorem dX5_findingOf_24 : decode cX5_findingOf 24 = .ok (.ireturn, 1) := tb_d tk_X5_findingOf_1 14 (24, .ireturn, 1) rfl
def tb_X5_put_1 : List (Nat × Instr × Nat) := [(0, .aload_n 0, 1), (1, .getfield 9, 3), (4, .iload_n 1, 1), (5, .aload_n 0, 1), (6, .getfield 15, 3), (9, .ifCond .ne 8, 3), (12, .iload_n 2, 1), (13, .i2b, 1), (14, .goto 17, 3), (17, .aload_n 0, 1), (18, .getfield 15, 3), (21, .iconst 1, 1), (22, .if_icmp .ne 8, 3), (25, .iload_n 2, 1), (26, .i2s, 1), (27, .goto 4, 3), (30, .iload_n 2, 1), (31, .iastore, 1), (32, .aload_n 0, 1), (33, .getfield 9, 3), (36, .iload_n 1, 1), (37, .iaload, 1), (38, .ireturn, 1)]
set_option maxRecDepth 100000 in
theorem tk_X5_put_1 : (tb_X5_put_1.all fun q => decide (decode cX5_put q.1 = .ok q.2)) = true := by decide +kernel
theorem dX5_put_0 : decode cX5_put 0 = .ok (.aload_n 0, 1) := tb_d tk_X5_put_1 0 (0, .aload_n 0, 1) rfl
theorem dX5_put_1 : decode cX5_put 1 = .ok (.getfield 9, 3) := tb_d tk_X5_put_1 1 (1, .getfield 9, 3) rfl
theorem dX5_put_4 : decode cX5_put 4 = .ok (.iload_n 1, 1) := tb_d tk_X5_put_1 2 (4, .iload_n 1, 1) rfl
theorem dX5_put_5 : decode cX5_put 5 = .ok (.aload_n 0, 1) := tb_d tk_X5_put_1 3 (5, .aload_n 0, 1) rfl
theorem dX5_put_6 : decode cX5_put 6 = .ok (.getfield 15, 3) := tb_d tk_X5_put_1 4 (6, .getfield 15, 3) rfl
theorem dX5_put_9 : decode cX5_put 9 = .ok (.ifCond .ne 8, 3) := tb_d tk_X5_put_1 5 (9, .ifCond .ne 8, 3) rfl
theorem dX5_put_12 : decode cX5_put 12 = .ok (.iload_n 2, 1) := tb_d tk_X5_put_1 6 (12, .iload_n 2, 1) rfl
theorem dX5_put_13 : decode cX5_put 13 = .ok (.i2b, 1) := tb_d tk_X5_put_1 7 (13, .i2b, 1) rfl
theorem dX5_put_14 : decode cX5_put 14 = .ok (.goto 17, 3) := tb_d tk_X5_put_1 8 (14, .goto 17, 3) rfl
theorem dX5_put_17 : decode cX5_put 17 = .ok (.aload_n 0, 1) := tb_d tk_X5_put_1 9 (17, .aload_n 0, 1) rfl
theorem dX5_put_18 : decode cX5_put 18 = .ok (.getfield 15, 3) := tb_d tk_X5_put_1 10 (18, .getfield 15, 3) rfl
theorem dX5_put_21 : decode cX5_put 21 = .ok (.iconst 1, 1) := tb_d tk_X5_put_1 11 (21, .iconst 1, 1) rfl
theorem dX5_put_22 : decode cX5_put 22 = .ok (.if_icmp .ne 8, 3) := tb_d tk_X5_put_1 12 (22, .if_icmp .ne 8, 3) rfl
theorem dX5_put_25 : decode cX5_put 25 = .ok (.iload_n 2, 1) := tb_d tk_X5_put_1 13 (25, .iload_n 2, 1) rfl
theorem dX5_put_26 : decode cX5_put 26 = .ok (.i2s, 1) := tb_d tk_X5_put_1 14 (26, .i2s, 1) rfl
theorem dX5_put_27 : decode cX5_put 27 = .ok (.goto 4, 3) := tb_d tk_X5_put_1 15 (27, .goto 4, 3) rfl
theorem dX5_put_30 : decode cX5_put 30 = .ok (.iload_n 2, 1) := tb_d tk_X5_put_1 16 (30, .iload_n 2, 1) rfl
theorem dX5_put_31 : decode cX5_put 31 = .ok (.iastore, 1) := tb_d tk_X5_put_1 17 (31, .iastore, 1) rfl
theorem dX5_put_32 : decode cX5_put 32 = .ok (.aload_n 0, 1) := tb_d tk_X5_put_1 18 (32, .aload_n 0, 1) rfl
theorem dX5_put_33 : decode cX5_put 33 = .ok (.getfield 9, 3) := tb_d tk_X5_put_1 19 (33, .getfield 9, 3) rfl
theorem dX5_put_36 : decode cX5_put 36 = .ok (.iload_n 1, 1) := tb_d tk_X5_put_1 20 (36, .iload_n 1, 1) rfl
theorem dX5_put_37 : decode cX5_put 37 = .ok (.iaload, 1) := tb_d tk_X5_put_1 21 (37, .iaload, 1) rfl
theorem dX5_put_38 : decode cX5_put 38 = .ok (.ireturn, 1) := tb_d tk_X5_put_1 22 (38, .ireturn, 1) rfl
set_option maxRecDepth 20000 in
theorem ggX6_init_X2_init : GoodIn wsX6_init wsX2_init := goodIn_r _ [11, 12, 2, 3, 4, 13, 14, 15, 16, 17, 18, 19, 20, 21, 22, 23, 24, 25, 26, 34, 35, 36, 37, 38, 39, 40, 41, 42, 43, 44, 45, 46, 47, 48, 49] (by decide +kernel) (by decide +kernel)
set_option maxRecDepth 20000 in
theorem gX6_init_X2_init_n17 : GoodIn wsX6_init (wsX2_init) := ggX6_init_X2_init
def tb_X6_init_1 : List (Nat × Instr × Nat) := [(0, .aload_n 0, 1), (1, .invokespecial 3, 3), (4, .aload_n 0, 1), (5, .bipush 100, 2), (7, .newarray .int, 2), (9, .putfield 9, 3), (12, .aload_n 0, 1), (13, .new 15, 3), (16, .dup, 1), (17, .invokespecial 17, 3), (20, .putfield 18, 3), (23, .return_, 1)]
set_option maxRecDepth 100000 in
theorem tk_X6_init_1 : (tb_X6_init_1.all fun q => decide (decode cX6_init q.1 = .ok q.2)) = true := by decide +kernel
theorem dX6_init_0 : decode cX6_init 0 = .ok (.aload_n 0, 1) := tb_d tk_X6_init_1 0 (0, .aload_n 0, 1) rfl
theorem dX6_init_1 : decode cX6_init 1 = .ok (.invokespecial 3, 3) := tb_d tk_X6_init_1 1 (1, .invokespecial 3, 3) rfl
theorem dX6_init_4 : decode cX6_init 4 = .ok (.aload_n 0, 1) := tb_d tk_X6_init_1 2 (4, .aload_n 0, 1) rfl
theorem dX6_init_5 : decode cX6_init 5 = .ok (.bipush 100, 2) := tb_d tk_X6_init_1 3 (5, .bipush 100, 2) rfl
theorem dX6_init_7 : decode cX6_init 7 = .ok (.newarray .int, 2) := tb_d tk_X6_init_1 4 (7, .newarray .int, 2) rfl
theorem dX6_init_9 : decode cX6_init 9 = .ok (.putfield 9, 3) := tb_d tk_X6_init_1 5 (9, .putfield 9, 3) rfl
theorem dX6_init_12 : decode cX6_init 12 = .ok (.aload_n 0, 1) := tb_d tk_X6_init_1 6 (12, .aload_n 0, 1) rfl
theorem dX6_init_13 : decode cX6_init 13 = .ok (.new 15, 3) := tb_d tk_X6_init_1 7 (13, .new 15, 3) rfl
theorem dX6_init_16 : decode cX6_init 16 = .ok (.dup, 1) := tb_d tk_X6_init_1 8 (16, .dup, 1) rfl
theorem dX6_init_17 : decode cX6_init 17 = .ok (.invokespecial 17, 3) := tb_d tk_X6_init_1 9 (17, .invokespecial 17, 3) rfl
theorem dX6_init_20 : decode cX6_init 20 = .ok (.putfield 18, 3) := tb_d tk_X6_init_1 10 (20, .putfield 18, 3) rfl
theorem dX6_init_23 : decode cX6_init 23 = .ok (.return_, 1) := tb_d tk_X6_init_1 11 (23, .return_, 1) rfl
def tb_X6_append_1 : List (Nat × Instr × Nat) := [(0, .aload_n 0, 1), (1, .getfield 22, 3), (4, .bipush 100, 2), (6, .if_icmp .lt 5, 3), (9, .iconst 0, 1), (10, .ireturn, 1), (11, .aload_n 0, 1), (12, .getfield 9, 3), (15, .aload_n 0, 1), (16, .getfield 22, 3), (19, .iload_n 1, 1), (20, .iastore, 1), (21, .aload_n 0, 1), (22, .dup, 1), (23, .getfield 22, 3), (26, .iconst 1, 1), (27, .iadd, 1), (28, .putfield 22, 3), (31, .iconst 1, 1), (32, .ireturn, 1)]
set_option maxRecDepth 100000 in
theorem tk_X6_append_1 : (tb_X6_append_1.all fun q => decide (decode cX6_append q.1 = .ok q.2)) = true := by decide +kernel
theorem dX6_append_0 : decode cX6_append 0 = .ok (.aload_n 0, 1) := tb_d tk_X6_append_1 0 (0, .aload_n 0, 1) rfl
theorem dX6_append_1 : decode cX6_append 1 = .ok (.getfield 22, 3) := tb_d tk_X6_append_1 1 (1, .getfield 22, 3) rfl
theorem dX6_append_4 : decode cX6_append 4 = .ok (.bipush 100, 2) := tb_d tk_X6_append_1 2 (4, .bipush 100, 2) rfl
theorem dX6_append_6 : decode cX6_append 6 = .ok (.if_icmp .lt 5, 3) := tb_d tk_X6_append_1 3 (6, .if_icmp .lt 5, 3) rfl
theorem dX6_append_9 : decode cX6_append 9 = .ok (.iconst 0, 1) := tb_d tk_X6_append_1 4 (9, .iconst 0, 1) rfl
theorem dX6_append_10 : decode cX6_append 10 = .ok (.ireturn, 1) := tb_d tk_X6_append_1 5 (10, .ireturn, 1) rfl
theorem dX6_append_11 : decode cX6_append 11 = .ok (.aload_n 0, 1) := tb_d tk_X6_append_1 6 (11, .aload_n 0, 1) rfl
theorem dX6_append_12 : decode cX6_append 12 = .ok (.getfield 9, 3) := tb_d tk_X6_append_1 7 (12, .getfield 9, 3) rfl
theorem dX6_append_15 : decode cX6_append 15 = .ok (.aload_n 0, 1) := tb_d tk_X6_append_1 8 (15, .aload_n 0, 1) rfl
theorem dX6_append_16 : decode cX6_append 16 = .ok (.getfield 22, 3) := tb_d tk_X6_append_1 9 (16, .getfield 22, 3) rfl
theorem dX6_append_19 : decode cX6_append 19 = .ok (.iload_n 1, 1) := tb_d tk_X6_append_1 10 (19, .iload_n 1, 1) rfl
theorem dX6_append_20 : decode cX6_append 20 = .ok (.iastore, 1) := tb_d tk_X6_append_1 11 (20, .iastore, 1) rfl
theorem dX6_append_21 : decode cX6_append 21 = .ok (.aload_n 0, 1) := tb_d tk_X6_append_1 12 (21, .aload_n 0, 1) rfl
theorem dX6_append_22 : decode cX6_append 22 = .ok (.dup, 1) := tb_d tk_X6_append_1 13 (22, .dup, 1) rfl
theorem dX6_append_23 : decode cX6_append 23 = .ok (.getfield 22, 3) := tb_d tk_X6_append_1 14 (23, .getfield 22, 3) rfl
theorem dX6_append_26 : decode cX6_append 26 = .ok (.iconst 1, 1) := tb_d tk_X6_append_1 15 (26, .iconst 1, 1) rfl
theorem dX6_append_27 : decode cX6_append 27 = .ok (.iadd, 1) := tb_d tk_X6_append_1 16 (27, .iadd, 1) rfl
theorem dX6_append_28 : decode cX6_append 28 = .ok (.putfield 22, 3) := tb_d tk_X6_append_1 17 (28, .putfield 22, 3) rfl
theorem dX6_append_31 : decode cX6_append 31 = .ok (.iconst 1, 1) := tb_d tk_X6_append_1 18 (31, .iconst 1, 1) rfl
theorem dX6_append_32 : decode cX6_append 32 = .ok (.ireturn, 1) := tb_d tk_X6_append_1 19 (32, .ireturn, 1) rfl
set_option maxRecDepth 20000 in
theorem ggX6_read_X6_readLaw : GoodIn wsX6_read wsX6_readLaw := goodIn_r _ [10, 2, 5, 11, 12, 13, 14, 15, 16, 17, 9, 18, 1, 19, 20, 21, 22, 23, 24, 25, 26, 27, 28, 29, 30, 31, 32, 33, 34, 35, 36, 37, 72, 73, 74, 75, 76, 77, 78, 79, 80, 81, 82, 83, 84, 85, 86, 87, 88, 89, 90, 91, 92, 93, 94] (by decide +kernel) (by decide +kernel)
set_option maxRecDepth 20000 in
theorem gX6_read_X6_readLaw : GoodIn wsX6_read (wsV RX6 35 RX6 yX6_readLaw wsX6_readLaw) := goodIn_app (goodIn_of _ (by decide +kernel)) ggX6_read_X6_readLaw
set_option maxRecDepth 20000 in
theorem ggX6_read_X6_readWord : GoodIn wsX6_read wsX6_readWord := goodIn_r _ [41, 2, 3, 42, 1, 19, 20, 21, 9, 22, 23, 24, 25, 26, 27, 28, 29, 30, 15, 16, 17, 18, 43, 44, 45, 46, 47, 48, 49, 50, 51, 52, 72, 73, 74, 75, 76, 77, 78, 79, 80, 81, 82, 83, 84, 85, 86] (by decide +kernel) (by decide +kernel)
set_option maxRecDepth 20000 in
theorem gX6_read_X6_readWord : GoodIn wsX6_read (wsV RX6 39 RX6 yX6_readWord wsX6_readWord) := goodIn_app (goodIn_of _ (by decide +kernel)) ggX6_read_X6_readWord
set_option maxRecDepth 20000 in
theorem ggX6_read_X6_here : GoodIn wsX6_read wsX6_here := goodIn_r _ [22, 1, 23, 24, 72, 73, 74, 75, 76, 77, 78] (by decide +kernel) (by decide +kernel)
set_option maxRecDepth 20000 in
theorem gX6_read_X6_here : GoodIn wsX6_read (wsV RX6 42 RX6 yX6_here wsX6_here) := goodIn_app (goodIn_of _ (by decide +kernel)) ggX6_read_X6_here
set_option maxRecDepth 20000 in
theorem ggX6_read_X6_readGuard : GoodIn wsX6_read wsX6_readGuard := goodIn_r _ [56, 57, 2, 4, 1, 58, 59, 11, 19, 20, 21, 9, 22, 23, 24, 60, 61, 62, 25, 26, 27, 28, 29, 30, 31, 32, 33, 34, 35, 36, 37, 15, 16, 17, 18, 72, 73, 74, 75, 76, 77, 78, 79, 80, 81, 82, 83, 84, 85, 86] (by decide +kernel) (by decide +kernel)
set_option maxRecDepth 20000 in
theorem gX6_read_X6_readGuard : GoodIn wsX6_read (wsV RX6 46 RX6 yX6_readGuard wsX6_readGuard) := goodIn_app (goodIn_of _ (by decide +kernel)) ggX6_read_X6_readGuard
set_option maxRecDepth 20000 in
theorem ggX6_read_X4_begin : GoodIn wsX6_read wsX4_begin := goodIn_r _ [67, 68, 69, 70, 71, 87, 88, 89, 90, 91, 92, 93, 94] (by decide +kernel) (by decide +kernel)
set_option maxRecDepth 20000 in
theorem gX6_read_X4_begin : GoodIn wsX6_read (wsV RX6 53 RX4 yX4_begin wsX4_begin) := goodIn_app (goodIn_of _ (by decide +kernel)) ggX6_read_X4_begin
def tb_X6_read_1 : List (Nat × Instr × Nat) := [(0, .aload_n 0, 1), (1, .iconst 0, 1), (2, .putfield 26, 3), (5, .aload_n 0, 1), (6, .getfield 18, 3), (9, .iconst 0, 1), (10, .putfield 29, 3), (13, .aload_n 0, 1), (14, .getfield 18, 3), (17, .iconst 0, 1), (18, .putfield 32, 3), (21, .aload_n 0, 1), (22, .invokevirtual 35, 3), (25, .ifCond .eq 10, 3), (28, .aload_n 0, 1), (29, .invokevirtual 39, 3), (32, .ifCond .ne 5, 3), (35, .iconst 0, 1), (36, .ireturn, 1), (37, .iconst 0, 1), (38, .istore_n 1, 1), (39, .iload_n 1, 1), (40, .bipush 6, 2), (42, .if_icmp .ge 27, 3), (45, .aload_n 0, 1), (46, .invokevirtual 42, 3), (49, .bipush 119, 2), (51, .if_icmp .ne 18, 3), (54, .aload_n 0, 1), (55, .invokevirtual 39, 3), (58, .ifCond .ne 5, 3), (61, .iconst 0, 1), (62, .ireturn, 1), (63, .iinc 1 1, 3), (66, .goto (-27), 3), (69, .aload_n 0, 1), (70, .invokevirtual 46, 3), (73, .ifCond .ne 5, 3), (76, .iconst 0, 1), (77, .ireturn, 1)]
set_option maxRecDepth 100000 in
theorem tk_X6_read_1 : (tb_X6_read_1.all fun q => decide (decode cX6_read q.1 = .ok q.2)) = true := by decide +kernel
theorem dX6_read_0 : decode cX6_read 0 = .ok (.aload_n 0, 1) := tb_d tk_X6_read_1 0 (0, .aload_n 0, 1) rfl
theorem dX6_read_1 : decode cX6_read 1 = .ok (.iconst 0, 1) := tb_d tk_X6_read_1 1 (1, .iconst 0, 1) rfl
theorem dX6_read_2 : decode cX6_read 2 = .ok (.putfield 26, 3) := tb_d tk_X6_read_1 2 (2, .putfield 26, 3) rfl
theorem dX6_read_5 : decode cX6_read 5 = .ok (.aload_n 0, 1) := tb_d tk_X6_read_1 3 (5, .aload_n 0, 1) rfl
theorem dX6_read_6 : decode cX6_read 6 = .ok (.getfield 18, 3) := tb_d tk_X6_read_1 4 (6, .getfield 18, 3) rfl
theorem dX6_read_9 : decode cX6_read 9 = .ok (.iconst 0, 1) := tb_d tk_X6_read_1 5 (9, .iconst 0, 1) rfl
theorem dX6_read_10 : decode cX6_read 10 = .ok (.putfield 29, 3) := tb_d tk_X6_read_1 6 (10, .putfield 29, 3) rfl
theorem dX6_read_13 : decode cX6_read 13 = .ok (.aload_n 0, 1) := tb_d tk_X6_read_1 7 (13, .aload_n 0, 1) rfl
theorem dX6_read_14 : decode cX6_read 14 = .ok (.getfield 18, 3) := tb_d tk_X6_read_1 8 (14, .getfield 18, 3) rfl
theorem dX6_read_17 : decode cX6_read 17 = .ok (.iconst 0, 1) := tb_d tk_X6_read_1 9 (17, .iconst 0, 1) rfl
theorem dX6_read_18 : decode cX6_read 18 = .ok (.putfield 32, 3) := tb_d tk_X6_read_1 10 (18, .putfield 32, 3) rfl
theorem dX6_read_21 : decode cX6_read 21 = .ok (.aload_n 0, 1) := tb_d tk_X6_read_1 11 (21, .aload_n 0, 1) rfl
theorem dX6_read_22 : decode cX6_read 22 = .ok (.invokevirtual 35, 3) := tb_d tk_X6_read_1 12 (22, .invokevirtual 35, 3) rfl
theorem dX6_read_25 : decode cX6_read 25 = .ok (.ifCond .eq 10, 3) := tb_d tk_X6_read_1 13 (25, .ifCond .eq 10, 3) rfl
theorem dX6_read_28 : decode cX6_read 28 = .ok (.aload_n 0, 1) := tb_d tk_X6_read_1 14 (28, .aload_n 0, 1) rfl
theorem dX6_read_29 : decode cX6_read 29 = .ok (.invokevirtual 39, 3) := tb_d tk_X6_read_1 15 (29, .invokevirtual 39, 3) rfl
theorem dX6_read_32 : decode cX6_read 32 = .ok (.ifCond .ne 5, 3) := tb_d tk_X6_read_1 16 (32, .ifCond .ne 5, 3) rfl
theorem dX6_read_35 : decode cX6_read 35 = .ok (.iconst 0, 1) := tb_d tk_X6_read_1 17 (35, .iconst 0, 1) rfl
theorem dX6_read_36 : decode cX6_read 36 = .ok (.ireturn, 1) := tb_d tk_X6_read_1 18 (36, .ireturn, 1) rfl
theorem dX6_read_37 : decode cX6_read 37 = .ok (.iconst 0, 1) := tb_d tk_X6_read_1 19 (37, .iconst 0, 1) rfl
theorem dX6_read_38 : decode cX6_read 38 = .ok (.istore_n 1, 1) := tb_d tk_X6_read_1 20 (38, .istore_n 1, 1) rfl
theorem dX6_read_39 : decode cX6_read 39 = .ok (.iload_n 1, 1) := tb_d tk_X6_read_1 21 (39, .iload_n 1, 1) rfl
theorem dX6_read_40 : decode cX6_read 40 = .ok (.bipush 6, 2) := tb_d tk_X6_read_1 22 (40, .bipush 6, 2) rfl
theorem dX6_read_42 : decode cX6_read 42 = .ok (.if_icmp .ge 27, 3) := tb_d tk_X6_read_1 23 (42, .if_icmp .ge 27, 3) rfl
theorem dX6_read_45 : decode cX6_read 45 = .ok (.aload_n 0, 1) := tb_d tk_X6_read_1 24 (45, .aload_n 0, 1) rfl
theorem dX6_read_46 : decode cX6_read 46 = .ok (.invokevirtual 42, 3) := tb_d tk_X6_read_1 25 (46, .invokevirtual 42, 3) rfl
theorem dX6_read_49 : decode cX6_read 49 = .ok (.bipush 119, 2) := tb_d tk_X6_read_1 26 (49, .bipush 119, 2) rfl
theorem dX6_read_51 : decode cX6_read 51 = .ok (.if_icmp .ne 18, 3) := tb_d tk_X6_read_1 27 (51, .if_icmp .ne 18, 3) rfl
theorem dX6_read_54 : decode cX6_read 54 = .ok (.aload_n 0, 1) := tb_d tk_X6_read_1 28 (54, .aload_n 0, 1) rfl
theorem dX6_read_55 : decode cX6_read 55 = .ok (.invokevirtual 39, 3) := tb_d tk_X6_read_1 29 (55, .invokevirtual 39, 3) rfl
theorem dX6_read_58 : decode cX6_read 58 = .ok (.ifCond .ne 5, 3) := tb_d tk_X6_read_1 30 (58, .ifCond .ne 5, 3) rfl
theorem dX6_read_61 : decode cX6_read 61 = .ok (.iconst 0, 1) := tb_d tk_X6_read_1 31 (61, .iconst 0, 1) rfl
theorem dX6_read_62 : decode cX6_read 62 = .ok (.ireturn, 1) := tb_d tk_X6_read_1 32 (62, .ireturn, 1) rfl
theorem dX6_read_63 : decode cX6_read 63 = .ok (.iinc 1 1, 3) := tb_d tk_X6_read_1 33 (63, .iinc 1 1, 3) rfl
theorem dX6_read_66 : decode cX6_read 66 = .ok (.goto (-27), 3) := tb_d tk_X6_read_1 34 (66, .goto (-27), 3) rfl
theorem dX6_read_69 : decode cX6_read 69 = .ok (.aload_n 0, 1) := tb_d tk_X6_read_1 35 (69, .aload_n 0, 1) rfl
theorem dX6_read_70 : decode cX6_read 70 = .ok (.invokevirtual 46, 3) := tb_d tk_X6_read_1 36 (70, .invokevirtual 46, 3) rfl
theorem dX6_read_73 : decode cX6_read 73 = .ok (.ifCond .ne 5, 3) := tb_d tk_X6_read_1 37 (73, .ifCond .ne 5, 3) rfl
theorem dX6_read_76 : decode cX6_read 76 = .ok (.iconst 0, 1) := tb_d tk_X6_read_1 38 (76, .iconst 0, 1) rfl
theorem dX6_read_77 : decode cX6_read 77 = .ok (.ireturn, 1) := tb_d tk_X6_read_1 39 (77, .ireturn, 1) rfl
def tb_X6_read_2 : List (Nat × Instr × Nat) := [(78, .iconst 0, 1), (79, .istore_n 1, 1), (80, .iload_n 1, 1), (81, .iconst 4, 1), (82, .if_icmp .ge 26, 3), (85, .aload_n 0, 1), (86, .invokevirtual 42, 3), (89, .iconst (-1), 1), (90, .if_icmp .eq 18, 3), (93, .aload_n 0, 1), (94, .invokevirtual 46, 3), (97, .ifCond .ne 5, 3), (100, .iconst 0, 1), (101, .ireturn, 1), (102, .iinc 1 1, 3), (105, .goto (-25), 3), (108, .aload_n 0, 1), (109, .getfield 18, 3), (112, .getfield 49, 3), (115, .aload_n 0, 1), (116, .getfield 18, 3), (119, .getfield 32, 3), (122, .invokevirtual 53, 3), (125, .iconst 1, 1), (126, .ireturn, 1)]
set_option maxRecDepth 100000 in
theorem tk_X6_read_2 : (tb_X6_read_2.all fun q => decide (decode cX6_read q.1 = .ok q.2)) = true := by decide +kernel
theorem dX6_read_78 : decode cX6_read 78 = .ok (.iconst 0, 1) := tb_d tk_X6_read_2 0 (78, .iconst 0, 1) rfl
theorem dX6_read_79 : decode cX6_read 79 = .ok (.istore_n 1, 1) := tb_d tk_X6_read_2 1 (79, .istore_n 1, 1) rfl
theorem dX6_read_80 : decode cX6_read 80 = .ok (.iload_n 1, 1) := tb_d tk_X6_read_2 2 (80, .iload_n 1, 1) rfl
theorem dX6_read_81 : decode cX6_read 81 = .ok (.iconst 4, 1) := tb_d tk_X6_read_2 3 (81, .iconst 4, 1) rfl
theorem dX6_read_82 : decode cX6_read 82 = .ok (.if_icmp .ge 26, 3) := tb_d tk_X6_read_2 4 (82, .if_icmp .ge 26, 3) rfl
theorem dX6_read_85 : decode cX6_read 85 = .ok (.aload_n 0, 1) := tb_d tk_X6_read_2 5 (85, .aload_n 0, 1) rfl
theorem dX6_read_86 : decode cX6_read 86 = .ok (.invokevirtual 42, 3) := tb_d tk_X6_read_2 6 (86, .invokevirtual 42, 3) rfl
theorem dX6_read_89 : decode cX6_read 89 = .ok (.iconst (-1), 1) := tb_d tk_X6_read_2 7 (89, .iconst (-1), 1) rfl
theorem dX6_read_90 : decode cX6_read 90 = .ok (.if_icmp .eq 18, 3) := tb_d tk_X6_read_2 8 (90, .if_icmp .eq 18, 3) rfl
theorem dX6_read_93 : decode cX6_read 93 = .ok (.aload_n 0, 1) := tb_d tk_X6_read_2 9 (93, .aload_n 0, 1) rfl
theorem dX6_read_94 : decode cX6_read 94 = .ok (.invokevirtual 46, 3) := tb_d tk_X6_read_2 10 (94, .invokevirtual 46, 3) rfl
theorem dX6_read_97 : decode cX6_read 97 = .ok (.ifCond .ne 5, 3) := tb_d tk_X6_read_2 11 (97, .ifCond .ne 5, 3) rfl
theorem dX6_read_100 : decode cX6_read 100 = .ok (.iconst 0, 1) := tb_d tk_X6_read_2 12 (100, .iconst 0, 1) rfl
theorem dX6_read_101 : decode cX6_read 101 = .ok (.ireturn, 1) := tb_d tk_X6_read_2 13 (101, .ireturn, 1) rfl
theorem dX6_read_102 : decode cX6_read 102 = .ok (.iinc 1 1, 3) := tb_d tk_X6_read_2 14 (102, .iinc 1 1, 3) rfl
theorem dX6_read_105 : decode cX6_read 105 = .ok (.goto (-25), 3) := tb_d tk_X6_read_2 15 (105, .goto (-25), 3) rfl
theorem dX6_read_108 : decode cX6_read 108 = .ok (.aload_n 0, 1) := tb_d tk_X6_read_2 16 (108, .aload_n 0, 1) rfl
theorem dX6_read_109 : decode cX6_read 109 = .ok (.getfield 18, 3) := tb_d tk_X6_read_2 17 (109, .getfield 18, 3) rfl
theorem dX6_read_112 : decode cX6_read 112 = .ok (.getfield 49, 3) := tb_d tk_X6_read_2 18 (112, .getfield 49, 3) rfl
theorem dX6_read_115 : decode cX6_read 115 = .ok (.aload_n 0, 1) := tb_d tk_X6_read_2 19 (115, .aload_n 0, 1) rfl
theorem dX6_read_116 : decode cX6_read 116 = .ok (.getfield 18, 3) := tb_d tk_X6_read_2 20 (116, .getfield 18, 3) rfl
theorem dX6_read_119 : decode cX6_read 119 = .ok (.getfield 32, 3) := tb_d tk_X6_read_2 21 (119, .getfield 32, 3) rfl
theorem dX6_read_122 : decode cX6_read 122 = .ok (.invokevirtual 53, 3) := tb_d tk_X6_read_2 22 (122, .invokevirtual 53, 3) rfl
theorem dX6_read_125 : decode cX6_read 125 = .ok (.iconst 1, 1) := tb_d tk_X6_read_2 23 (125, .iconst 1, 1) rfl
theorem dX6_read_126 : decode cX6_read 126 = .ok (.ireturn, 1) := tb_d tk_X6_read_2 24 (126, .ireturn, 1) rfl
set_option maxRecDepth 20000 in
theorem ggX6_readLaw_X6_readSign : GoodIn wsX6_readLaw wsX6_readSign := goodIn_r _ [11, 12, 13, 14, 15, 10, 16, 17, 18, 19, 20, 21, 22, 23, 24, 32, 33, 34, 35, 36, 37, 38] (by decide +kernel) (by decide +kernel)
set_option maxRecDepth 20000 in
theorem gX6_readLaw_X6_readSign : GoodIn wsX6_readLaw (wsV RX6 59 RX6 yX6_readSign wsX6_readSign) := goodIn_app (goodIn_of _ (by decide +kernel)) ggX6_readLaw_X6_readSign
set_option maxRecDepth 20000 in
theorem ggX6_readLaw_X6_readNumber : GoodIn wsX6_readLaw wsX6_readNumber := goodIn_r _ [28, 3, 12, 17, 18, 29, 30, 10, 31, 19, 20, 21, 22, 23, 24, 32, 33, 34, 35, 36, 37, 38] (by decide +kernel) (by decide +kernel)
set_option maxRecDepth 20000 in
theorem gX6_readLaw_X6_readNumber : GoodIn wsX6_readLaw (wsV RX6 63 RX6 yX6_readNumber wsX6_readNumber) := goodIn_app (goodIn_of _ (by decide +kernel)) ggX6_readLaw_X6_readNumber
def tb_X6_readLaw_1 : List (Nat × Instr × Nat) := [(0, .aload_n 0, 1), (1, .bipush 113, 2), (3, .invokevirtual 59, 3), (6, .ifCond .eq 12, 3), (9, .aload_n 0, 1), (10, .bipush 9, 2), (12, .invokevirtual 63, 3), (15, .ifCond .ne 5, 3), (18, .iconst 0, 1), (19, .ireturn, 1), (20, .aload_n 0, 1), (21, .getfield 18, 3), (24, .getfield 49, 3), (27, .aload_n 0, 1), (28, .getfield 66, 3), (31, .putfield 69, 3), (34, .aload_n 0, 1), (35, .bipush 44, 2), (37, .invokevirtual 59, 3), (40, .ifCond .eq 12, 3), (43, .aload_n 0, 1), (44, .bipush 9, 2), (46, .invokevirtual 63, 3), (49, .ifCond .ne 5, 3), (52, .iconst 0, 1), (53, .ireturn, 1), (54, .aload_n 0, 1), (55, .getfield 18, 3), (58, .aload_n 0, 1), (59, .getfield 66, 3), (62, .putfield 72, 3), (65, .aload_n 0, 1), (66, .bipush 44, 2), (68, .invokevirtual 59, 3), (71, .ifCond .eq 12, 3), (74, .aload_n 0, 1), (75, .bipush 6, 2), (77, .invokevirtual 63, 3), (80, .ifCond .ne 5, 3), (83, .iconst 0, 1)]
set_option maxRecDepth 100000 in
theorem tk_X6_readLaw_1 : (tb_X6_readLaw_1.all fun q => decide (decode cX6_readLaw q.1 = .ok q.2)) = true := by decide +kernel
theorem dX6_readLaw_0 : decode cX6_readLaw 0 = .ok (.aload_n 0, 1) := tb_d tk_X6_readLaw_1 0 (0, .aload_n 0, 1) rfl
theorem dX6_readLaw_1 : decode cX6_readLaw 1 = .ok (.bipush 113, 2) := tb_d tk_X6_readLaw_1 1 (1, .bipush 113, 2) rfl
theorem dX6_readLaw_3 : decode cX6_readLaw 3 = .ok (.invokevirtual 59, 3) := tb_d tk_X6_readLaw_1 2 (3, .invokevirtual 59, 3) rfl
theorem dX6_readLaw_6 : decode cX6_readLaw 6 = .ok (.ifCond .eq 12, 3) := tb_d tk_X6_readLaw_1 3 (6, .ifCond .eq 12, 3) rfl
theorem dX6_readLaw_9 : decode cX6_readLaw 9 = .ok (.aload_n 0, 1) := tb_d tk_X6_readLaw_1 4 (9, .aload_n 0, 1) rfl
theorem dX6_readLaw_10 : decode cX6_readLaw 10 = .ok (.bipush 9, 2) := tb_d tk_X6_readLaw_1 5 (10, .bipush 9, 2) rfl
theorem dX6_readLaw_12 : decode cX6_readLaw 12 = .ok (.invokevirtual 63, 3) := tb_d tk_X6_readLaw_1 6 (12, .invokevirtual 63, 3) rfl
theorem dX6_readLaw_15 : decode cX6_readLaw 15 = .ok (.ifCond .ne 5, 3) := tb_d tk_X6_readLaw_1 7 (15, .ifCond .ne 5, 3) rfl
theorem dX6_readLaw_18 : decode cX6_readLaw 18 = .ok (.iconst 0, 1) := tb_d tk_X6_readLaw_1 8 (18, .iconst 0, 1) rfl
theorem dX6_readLaw_19 : decode cX6_readLaw 19 = .ok (.ireturn, 1) := tb_d tk_X6_readLaw_1 9 (19, .ireturn, 1) rfl
theorem dX6_readLaw_20 : decode cX6_readLaw 20 = .ok (.aload_n 0, 1) := tb_d tk_X6_readLaw_1 10 (20, .aload_n 0, 1) rfl
theorem dX6_readLaw_21 : decode cX6_readLaw 21 = .ok (.getfield 18, 3) := tb_d tk_X6_readLaw_1 11 (21, .getfield 18, 3) rfl
theorem dX6_readLaw_24 : decode cX6_readLaw 24 = .ok (.getfield 49, 3) := tb_d tk_X6_readLaw_1 12 (24, .getfield 49, 3) rfl
theorem dX6_readLaw_27 : decode cX6_readLaw 27 = .ok (.aload_n 0, 1) := tb_d tk_X6_readLaw_1 13 (27, .aload_n 0, 1) rfl
theorem dX6_readLaw_28 : decode cX6_readLaw 28 = .ok (.getfield 66, 3) := tb_d tk_X6_readLaw_1 14 (28, .getfield 66, 3) rfl
theorem dX6_readLaw_31 : decode cX6_readLaw 31 = .ok (.putfield 69, 3) := tb_d tk_X6_readLaw_1 15 (31, .putfield 69, 3) rfl
theorem dX6_readLaw_34 : decode cX6_readLaw 34 = .ok (.aload_n 0, 1) := tb_d tk_X6_readLaw_1 16 (34, .aload_n 0, 1) rfl
theorem dX6_readLaw_35 : decode cX6_readLaw 35 = .ok (.bipush 44, 2) := tb_d tk_X6_readLaw_1 17 (35, .bipush 44, 2) rfl
theorem dX6_readLaw_37 : decode cX6_readLaw 37 = .ok (.invokevirtual 59, 3) := tb_d tk_X6_readLaw_1 18 (37, .invokevirtual 59, 3) rfl
theorem dX6_readLaw_40 : decode cX6_readLaw 40 = .ok (.ifCond .eq 12, 3) := tb_d tk_X6_readLaw_1 19 (40, .ifCond .eq 12, 3) rfl
theorem dX6_readLaw_43 : decode cX6_readLaw 43 = .ok (.aload_n 0, 1) := tb_d tk_X6_readLaw_1 20 (43, .aload_n 0, 1) rfl
theorem dX6_readLaw_44 : decode cX6_readLaw 44 = .ok (.bipush 9, 2) := tb_d tk_X6_readLaw_1 21 (44, .bipush 9, 2) rfl
theorem dX6_readLaw_46 : decode cX6_readLaw 46 = .ok (.invokevirtual 63, 3) := tb_d tk_X6_readLaw_1 22 (46, .invokevirtual 63, 3) rfl
theorem dX6_readLaw_49 : decode cX6_readLaw 49 = .ok (.ifCond .ne 5, 3) := tb_d tk_X6_readLaw_1 23 (49, .ifCond .ne 5, 3) rfl
theorem dX6_readLaw_52 : decode cX6_readLaw 52 = .ok (.iconst 0, 1) := tb_d tk_X6_readLaw_1 24 (52, .iconst 0, 1) rfl
theorem dX6_readLaw_53 : decode cX6_readLaw 53 = .ok (.ireturn, 1) := tb_d tk_X6_readLaw_1 25 (53, .ireturn, 1) rfl
theorem dX6_readLaw_54 : decode cX6_readLaw 54 = .ok (.aload_n 0, 1) := tb_d tk_X6_readLaw_1 26 (54, .aload_n 0, 1) rfl
theorem dX6_readLaw_55 : decode cX6_readLaw 55 = .ok (.getfield 18, 3) := tb_d tk_X6_readLaw_1 27 (55, .getfield 18, 3) rfl
theorem dX6_readLaw_58 : decode cX6_readLaw 58 = .ok (.aload_n 0, 1) := tb_d tk_X6_readLaw_1 28 (58, .aload_n 0, 1) rfl
theorem dX6_readLaw_59 : decode cX6_readLaw 59 = .ok (.getfield 66, 3) := tb_d tk_X6_readLaw_1 29 (59, .getfield 66, 3) rfl
theorem dX6_readLaw_62 : decode cX6_readLaw 62 = .ok (.putfield 72, 3) := tb_d tk_X6_readLaw_1 30 (62, .putfield 72, 3) rfl
theorem dX6_readLaw_65 : decode cX6_readLaw 65 = .ok (.aload_n 0, 1) := tb_d tk_X6_readLaw_1 31 (65, .aload_n 0, 1) rfl
theorem dX6_readLaw_66 : decode cX6_readLaw 66 = .ok (.bipush 44, 2) := tb_d tk_X6_readLaw_1 32 (66, .bipush 44, 2) rfl
theorem dX6_readLaw_68 : decode cX6_readLaw 68 = .ok (.invokevirtual 59, 3) := tb_d tk_X6_readLaw_1 33 (68, .invokevirtual 59, 3) rfl
theorem dX6_readLaw_71 : decode cX6_readLaw 71 = .ok (.ifCond .eq 12, 3) := tb_d tk_X6_readLaw_1 34 (71, .ifCond .eq 12, 3) rfl
theorem dX6_readLaw_74 : decode cX6_readLaw 74 = .ok (.aload_n 0, 1) := tb_d tk_X6_readLaw_1 35 (74, .aload_n 0, 1) rfl
theorem dX6_readLaw_75 : decode cX6_readLaw 75 = .ok (.bipush 6, 2) := tb_d tk_X6_readLaw_1 36 (75, .bipush 6, 2) rfl
theorem dX6_readLaw_77 : decode cX6_readLaw 77 = .ok (.invokevirtual 63, 3) := tb_d tk_X6_readLaw_1 37 (77, .invokevirtual 63, 3) rfl
theorem dX6_readLaw_80 : decode cX6_readLaw 80 = .ok (.ifCond .ne 5, 3) := tb_d tk_X6_readLaw_1 38 (80, .ifCond .ne 5, 3) rfl
theorem dX6_readLaw_83 : decode cX6_readLaw 83 = .ok (.iconst 0, 1) := tb_d tk_X6_readLaw_1 39 (83, .iconst 0, 1) rfl
def tb_X6_readLaw_2 : List (Nat × Instr × Nat) := [(84, .ireturn, 1), (85, .aload_n 0, 1), (86, .getfield 18, 3), (89, .aload_n 0, 1), (90, .getfield 66, 3), (93, .putfield 75, 3), (96, .aload_n 0, 1), (97, .bipush 59, 2), (99, .invokevirtual 59, 3), (102, .ireturn, 1)]
set_option maxRecDepth 100000 in
theorem tk_X6_readLaw_2 : (tb_X6_readLaw_2.all fun q => decide (decode cX6_readLaw q.1 = .ok q.2)) = true := by decide +kernel
theorem dX6_readLaw_84 : decode cX6_readLaw 84 = .ok (.ireturn, 1) := tb_d tk_X6_readLaw_2 0 (84, .ireturn, 1) rfl
theorem dX6_readLaw_85 : decode cX6_readLaw 85 = .ok (.aload_n 0, 1) := tb_d tk_X6_readLaw_2 1 (85, .aload_n 0, 1) rfl
theorem dX6_readLaw_86 : decode cX6_readLaw 86 = .ok (.getfield 18, 3) := tb_d tk_X6_readLaw_2 2 (86, .getfield 18, 3) rfl
theorem dX6_readLaw_89 : decode cX6_readLaw 89 = .ok (.aload_n 0, 1) := tb_d tk_X6_readLaw_2 3 (89, .aload_n 0, 1) rfl
theorem dX6_readLaw_90 : decode cX6_readLaw 90 = .ok (.getfield 66, 3) := tb_d tk_X6_readLaw_2 4 (90, .getfield 66, 3) rfl
theorem dX6_readLaw_93 : decode cX6_readLaw 93 = .ok (.putfield 75, 3) := tb_d tk_X6_readLaw_2 5 (93, .putfield 75, 3) rfl
theorem dX6_readLaw_96 : decode cX6_readLaw 96 = .ok (.aload_n 0, 1) := tb_d tk_X6_readLaw_2 6 (96, .aload_n 0, 1) rfl
theorem dX6_readLaw_97 : decode cX6_readLaw 97 = .ok (.bipush 59, 2) := tb_d tk_X6_readLaw_2 7 (97, .bipush 59, 2) rfl
theorem dX6_readLaw_99 : decode cX6_readLaw 99 = .ok (.invokevirtual 59, 3) := tb_d tk_X6_readLaw_2 8 (99, .invokevirtual 59, 3) rfl
theorem dX6_readLaw_102 : decode cX6_readLaw 102 = .ok (.ireturn, 1) := tb_d tk_X6_readLaw_2 9 (102, .ireturn, 1) rfl
set_option maxRecDepth 20000 in
theorem ggX6_readWord_X6_here : GoodIn wsX6_readWord wsX6_here := goodIn_r _ [9, 4, 10, 11, 32, 33, 34, 35, 36, 37, 38] (by decide +kernel) (by decide +kernel)
set_option maxRecDepth 20000 in
theorem gX6_readWord_X6_here : GoodIn wsX6_readWord (wsV RX6 42 RX6 yX6_here wsX6_here) := goodIn_app (goodIn_of _ (by decide +kernel)) ggX6_readWord_X6_here
set_option maxRecDepth 20000 in
theorem ggX6_readWord_X6_faulty : GoodIn wsX6_readWord wsX6_faulty := goodIn_r _ [15, 16, 4, 17, 32, 33, 34, 35, 36, 37, 38] (by decide +kernel) (by decide +kernel)
set_option maxRecDepth 20000 in
theorem gX6_readWord_X6_faulty : GoodIn wsX6_readWord (wsV RX6 78 RX6 yX6_faulty wsX6_faulty) := goodIn_app (goodIn_of _ (by decide +kernel)) ggX6_readWord_X6_faulty
set_option maxRecDepth 20000 in
theorem ggX6_readWord_X6_readSign : GoodIn wsX6_readWord wsX6_readSign := goodIn_r _ [21, 4, 5, 6, 7, 8, 9, 10, 11, 12, 13, 14, 15, 16, 17, 32, 33, 34, 35, 36, 37, 38] (by decide +kernel) (by decide +kernel)
set_option maxRecDepth 20000 in
theorem gX6_readWord_X6_readSign : GoodIn wsX6_readWord (wsV RX6 59 RX6 yX6_readSign wsX6_readSign) := goodIn_app (goodIn_of _ (by decide +kernel)) ggX6_readWord_X6_readSign
set_option maxRecDepth 20000 in
theorem ggX6_readWord_X6_wasTold : GoodIn wsX6_readWord wsX6_wasTold := goodIn_r _ [25, 1, 26, 27, 28, 29, 30, 31, 32, 33, 34, 35, 36, 37, 38, 39, 40, 41, 42, 43, 44, 45, 46] (by decide +kernel) (by decide +kernel)
set_option maxRecDepth 20000 in
theorem gX6_readWord_X6_wasTold : GoodIn wsX6_readWord (wsV RX6 84 RX6 yX6_wasTold wsX6_wasTold) := goodIn_app (goodIn_of _ (by decide +kernel)) ggX6_readWord_X6_wasTold
def tb_X6_readWord_1 : List (Nat × Instr × Nat) := [(0, .aload_n 0, 1), (1, .invokevirtual 42, 3), (4, .bipush 119, 2), (6, .if_icmp .ne 21, 3), (9, .aload_n 0, 1), (10, .getfield 18, 3), (13, .getfield 29, 3), (16, .bipush 6, 2), (18, .if_icmp .lt 9, 3), (21, .aload_n 0, 1), (22, .iconst 3, 1), (23, .invokevirtual 78, 3), (26, .ireturn, 1), (27, .aload_n 0, 1), (28, .bipush 119, 2), (30, .invokevirtual 59, 3), (33, .ifCond .ne 5, 3), (36, .iconst 0, 1), (37, .ireturn, 1), (38, .iconst 0, 1), (39, .istore_n 1, 1), (40, .iload_n 1, 1), (41, .iconst 3, 1), (42, .if_icmp .ge 88, 3), (45, .aload_n 0, 1), (46, .invokevirtual 42, 3), (49, .bipush 97, 2), (51, .isub, 1), (52, .istore_n 2, 1), (53, .iload_n 2, 1), (54, .ifCond .lt 9, 3), (57, .iload_n 2, 1), (58, .bipush 25, 2), (60, .if_icmp .le 9, 3), (63, .aload_n 0, 1), (64, .iconst 1, 1), (65, .invokevirtual 78, 3), (68, .ireturn, 1), (69, .aload_n 0, 1), (70, .getfield 18, 3)]
set_option maxRecDepth 100000 in
theorem tk_X6_readWord_1 : (tb_X6_readWord_1.all fun q => decide (decode cX6_readWord q.1 = .ok q.2)) = true := by decide +kernel
theorem dX6_readWord_0 : decode cX6_readWord 0 = .ok (.aload_n 0, 1) := tb_d tk_X6_readWord_1 0 (0, .aload_n 0, 1) rfl
theorem dX6_readWord_1 : decode cX6_readWord 1 = .ok (.invokevirtual 42, 3) := tb_d tk_X6_readWord_1 1 (1, .invokevirtual 42, 3) rfl
theorem dX6_readWord_4 : decode cX6_readWord 4 = .ok (.bipush 119, 2) := tb_d tk_X6_readWord_1 2 (4, .bipush 119, 2) rfl
theorem dX6_readWord_6 : decode cX6_readWord 6 = .ok (.if_icmp .ne 21, 3) := tb_d tk_X6_readWord_1 3 (6, .if_icmp .ne 21, 3) rfl
theorem dX6_readWord_9 : decode cX6_readWord 9 = .ok (.aload_n 0, 1) := tb_d tk_X6_readWord_1 4 (9, .aload_n 0, 1) rfl
theorem dX6_readWord_10 : decode cX6_readWord 10 = .ok (.getfield 18, 3) := tb_d tk_X6_readWord_1 5 (10, .getfield 18, 3) rfl
theorem dX6_readWord_13 : decode cX6_readWord 13 = .ok (.getfield 29, 3) := tb_d tk_X6_readWord_1 6 (13, .getfield 29, 3) rfl
theorem dX6_readWord_16 : decode cX6_readWord 16 = .ok (.bipush 6, 2) := tb_d tk_X6_readWord_1 7 (16, .bipush 6, 2) rfl
theorem dX6_readWord_18 : decode cX6_readWord 18 = .ok (.if_icmp .lt 9, 3) := tb_d tk_X6_readWord_1 8 (18, .if_icmp .lt 9, 3) rfl
theorem dX6_readWord_21 : decode cX6_readWord 21 = .ok (.aload_n 0, 1) := tb_d tk_X6_readWord_1 9 (21, .aload_n 0, 1) rfl
theorem dX6_readWord_22 : decode cX6_readWord 22 = .ok (.iconst 3, 1) := tb_d tk_X6_readWord_1 10 (22, .iconst 3, 1) rfl
theorem dX6_readWord_23 : decode cX6_readWord 23 = .ok (.invokevirtual 78, 3) := tb_d tk_X6_readWord_1 11 (23, .invokevirtual 78, 3) rfl
theorem dX6_readWord_26 : decode cX6_readWord 26 = .ok (.ireturn, 1) := tb_d tk_X6_readWord_1 12 (26, .ireturn, 1) rfl
theorem dX6_readWord_27 : decode cX6_readWord 27 = .ok (.aload_n 0, 1) := tb_d tk_X6_readWord_1 13 (27, .aload_n 0, 1) rfl
theorem dX6_readWord_28 : decode cX6_readWord 28 = .ok (.bipush 119, 2) := tb_d tk_X6_readWord_1 14 (28, .bipush 119, 2) rfl
theorem dX6_readWord_30 : decode cX6_readWord 30 = .ok (.invokevirtual 59, 3) := tb_d tk_X6_readWord_1 15 (30, .invokevirtual 59, 3) rfl
theorem dX6_readWord_33 : decode cX6_readWord 33 = .ok (.ifCond .ne 5, 3) := tb_d tk_X6_readWord_1 16 (33, .ifCond .ne 5, 3) rfl
theorem dX6_readWord_36 : decode cX6_readWord 36 = .ok (.iconst 0, 1) := tb_d tk_X6_readWord_1 17 (36, .iconst 0, 1) rfl
theorem dX6_readWord_37 : decode cX6_readWord 37 = .ok (.ireturn, 1) := tb_d tk_X6_readWord_1 18 (37, .ireturn, 1) rfl
theorem dX6_readWord_38 : decode cX6_readWord 38 = .ok (.iconst 0, 1) := tb_d tk_X6_readWord_1 19 (38, .iconst 0, 1) rfl
theorem dX6_readWord_39 : decode cX6_readWord 39 = .ok (.istore_n 1, 1) := tb_d tk_X6_readWord_1 20 (39, .istore_n 1, 1) rfl
theorem dX6_readWord_40 : decode cX6_readWord 40 = .ok (.iload_n 1, 1) := tb_d tk_X6_readWord_1 21 (40, .iload_n 1, 1) rfl
theorem dX6_readWord_41 : decode cX6_readWord 41 = .ok (.iconst 3, 1) := tb_d tk_X6_readWord_1 22 (41, .iconst 3, 1) rfl
theorem dX6_readWord_42 : decode cX6_readWord 42 = .ok (.if_icmp .ge 88, 3) := tb_d tk_X6_readWord_1 23 (42, .if_icmp .ge 88, 3) rfl
theorem dX6_readWord_45 : decode cX6_readWord 45 = .ok (.aload_n 0, 1) := tb_d tk_X6_readWord_1 24 (45, .aload_n 0, 1) rfl
theorem dX6_readWord_46 : decode cX6_readWord 46 = .ok (.invokevirtual 42, 3) := tb_d tk_X6_readWord_1 25 (46, .invokevirtual 42, 3) rfl
theorem dX6_readWord_49 : decode cX6_readWord 49 = .ok (.bipush 97, 2) := tb_d tk_X6_readWord_1 26 (49, .bipush 97, 2) rfl
theorem dX6_readWord_51 : decode cX6_readWord 51 = .ok (.isub, 1) := tb_d tk_X6_readWord_1 27 (51, .isub, 1) rfl
theorem dX6_readWord_52 : decode cX6_readWord 52 = .ok (.istore_n 2, 1) := tb_d tk_X6_readWord_1 28 (52, .istore_n 2, 1) rfl
theorem dX6_readWord_53 : decode cX6_readWord 53 = .ok (.iload_n 2, 1) := tb_d tk_X6_readWord_1 29 (53, .iload_n 2, 1) rfl
theorem dX6_readWord_54 : decode cX6_readWord 54 = .ok (.ifCond .lt 9, 3) := tb_d tk_X6_readWord_1 30 (54, .ifCond .lt 9, 3) rfl
theorem dX6_readWord_57 : decode cX6_readWord 57 = .ok (.iload_n 2, 1) := tb_d tk_X6_readWord_1 31 (57, .iload_n 2, 1) rfl
theorem dX6_readWord_58 : decode cX6_readWord 58 = .ok (.bipush 25, 2) := tb_d tk_X6_readWord_1 32 (58, .bipush 25, 2) rfl
theorem dX6_readWord_60 : decode cX6_readWord 60 = .ok (.if_icmp .le 9, 3) := tb_d tk_X6_readWord_1 33 (60, .if_icmp .le 9, 3) rfl
theorem dX6_readWord_63 : decode cX6_readWord 63 = .ok (.aload_n 0, 1) := tb_d tk_X6_readWord_1 34 (63, .aload_n 0, 1) rfl
theorem dX6_readWord_64 : decode cX6_readWord 64 = .ok (.iconst 1, 1) := tb_d tk_X6_readWord_1 35 (64, .iconst 1, 1) rfl
theorem dX6_readWord_65 : decode cX6_readWord 65 = .ok (.invokevirtual 78, 3) := tb_d tk_X6_readWord_1 36 (65, .invokevirtual 78, 3) rfl
theorem dX6_readWord_68 : decode cX6_readWord 68 = .ok (.ireturn, 1) := tb_d tk_X6_readWord_1 37 (68, .ireturn, 1) rfl
theorem dX6_readWord_69 : decode cX6_readWord 69 = .ok (.aload_n 0, 1) := tb_d tk_X6_readWord_1 38 (69, .aload_n 0, 1) rfl
theorem dX6_readWord_70 : decode cX6_readWord 70 = .ok (.getfield 18, 3) := tb_d tk_X6_readWord_1 39 (70, .getfield 18, 3) rfl
def tb_X6_readWord_2 : List (Nat × Instr × Nat) := [(73, .getfield 81, 3), (76, .aload_n 0, 1), (77, .getfield 18, 3), (80, .getfield 29, 3), (83, .iconst 3, 1), (84, .imul, 1), (85, .iload_n 1, 1), (86, .iadd, 1), (87, .iload_n 2, 1), (88, .iastore, 1), (89, .iload_n 1, 1), (90, .iconst 2, 1), (91, .if_icmp .ne 23, 3), (94, .aload_n 0, 1), (95, .aload_n 0, 1), (96, .getfield 18, 3), (99, .getfield 29, 3), (102, .invokevirtual 84, 3), (105, .ifCond .eq 9, 3), (108, .aload_n 0, 1), (109, .iconst 2, 1), (110, .invokevirtual 78, 3), (113, .ireturn, 1), (114, .aload_n 0, 1), (115, .dup, 1), (116, .getfield 26, 3), (119, .iconst 1, 1), (120, .iadd, 1), (121, .putfield 26, 3), (124, .iinc 1 1, 3), (127, .goto (-87), 3), (130, .aload_n 0, 1), (131, .getfield 18, 3), (134, .dup, 1), (135, .getfield 29, 3), (138, .iconst 1, 1), (139, .iadd, 1), (140, .putfield 29, 3), (143, .aload_n 0, 1), (144, .bipush 59, 2)]
set_option maxRecDepth 100000 in
theorem tk_X6_readWord_2 : (tb_X6_readWord_2.all fun q => decide (decode cX6_readWord q.1 = .ok q.2)) = true := by decide +kernel
theorem dX6_readWord_73 : decode cX6_readWord 73 = .ok (.getfield 81, 3) := tb_d tk_X6_readWord_2 0 (73, .getfield 81, 3) rfl
theorem dX6_readWord_76 : decode cX6_readWord 76 = .ok (.aload_n 0, 1) := tb_d tk_X6_readWord_2 1 (76, .aload_n 0, 1) rfl
theorem dX6_readWord_77 : decode cX6_readWord 77 = .ok (.getfield 18, 3) := tb_d tk_X6_readWord_2 2 (77, .getfield 18, 3) rfl
theorem dX6_readWord_80 : decode cX6_readWord 80 = .ok (.getfield 29, 3) := tb_d tk_X6_readWord_2 3 (80, .getfield 29, 3) rfl
theorem dX6_readWord_83 : decode cX6_readWord 83 = .ok (.iconst 3, 1) := tb_d tk_X6_readWord_2 4 (83, .iconst 3, 1) rfl
theorem dX6_readWord_84 : decode cX6_readWord 84 = .ok (.imul, 1) := tb_d tk_X6_readWord_2 5 (84, .imul, 1) rfl
theorem dX6_readWord_85 : decode cX6_readWord 85 = .ok (.iload_n 1, 1) := tb_d tk_X6_readWord_2 6 (85, .iload_n 1, 1) rfl
theorem dX6_readWord_86 : decode cX6_readWord 86 = .ok (.iadd, 1) := tb_d tk_X6_readWord_2 7 (86, .iadd, 1) rfl
theorem dX6_readWord_87 : decode cX6_readWord 87 = .ok (.iload_n 2, 1) := tb_d tk_X6_readWord_2 8 (87, .iload_n 2, 1) rfl
theorem dX6_readWord_88 : decode cX6_readWord 88 = .ok (.iastore, 1) := tb_d tk_X6_readWord_2 9 (88, .iastore, 1) rfl
theorem dX6_readWord_89 : decode cX6_readWord 89 = .ok (.iload_n 1, 1) := tb_d tk_X6_readWord_2 10 (89, .iload_n 1, 1) rfl
theorem dX6_readWord_90 : decode cX6_readWord 90 = .ok (.iconst 2, 1) := tb_d tk_X6_readWord_2 11 (90, .iconst 2, 1) rfl
theorem dX6_readWord_91 : decode cX6_readWord 91 = .ok (.if_icmp .ne 23, 3) := tb_d tk_X6_readWord_2 12 (91, .if_icmp .ne 23, 3) rfl
theorem dX6_readWord_94 : decode cX6_readWord 94 = .ok (.aload_n 0, 1) := tb_d tk_X6_readWord_2 13 (94, .aload_n 0, 1) rfl
theorem dX6_readWord_95 : decode cX6_readWord 95 = .ok (.aload_n 0, 1) := tb_d tk_X6_readWord_2 14 (95, .aload_n 0, 1) rfl
theorem dX6_readWord_96 : decode cX6_readWord 96 = .ok (.getfield 18, 3) := tb_d tk_X6_readWord_2 15 (96, .getfield 18, 3) rfl
theorem dX6_readWord_99 : decode cX6_readWord 99 = .ok (.getfield 29, 3) := tb_d tk_X6_readWord_2 16 (99, .getfield 29, 3) rfl
theorem dX6_readWord_102 : decode cX6_readWord 102 = .ok (.invokevirtual 84, 3) := tb_d tk_X6_readWord_2 17 (102, .invokevirtual 84, 3) rfl
theorem dX6_readWord_105 : decode cX6_readWord 105 = .ok (.ifCond .eq 9, 3) := tb_d tk_X6_readWord_2 18 (105, .ifCond .eq 9, 3) rfl
theorem dX6_readWord_108 : decode cX6_readWord 108 = .ok (.aload_n 0, 1) := tb_d tk_X6_readWord_2 19 (108, .aload_n 0, 1) rfl
theorem dX6_readWord_109 : decode cX6_readWord 109 = .ok (.iconst 2, 1) := tb_d tk_X6_readWord_2 20 (109, .iconst 2, 1) rfl
theorem dX6_readWord_110 : decode cX6_readWord 110 = .ok (.invokevirtual 78, 3) := tb_d tk_X6_readWord_2 21 (110, .invokevirtual 78, 3) rfl
theorem dX6_readWord_113 : decode cX6_readWord 113 = .ok (.ireturn, 1) := tb_d tk_X6_readWord_2 22 (113, .ireturn, 1) rfl
theorem dX6_readWord_114 : decode cX6_readWord 114 = .ok (.aload_n 0, 1) := tb_d tk_X6_readWord_2 23 (114, .aload_n 0, 1) rfl
theorem dX6_readWord_115 : decode cX6_readWord 115 = .ok (.dup, 1) := tb_d tk_X6_readWord_2 24 (115, .dup, 1) rfl
theorem dX6_readWord_116 : decode cX6_readWord 116 = .ok (.getfield 26, 3) := tb_d tk_X6_readWord_2 25 (116, .getfield 26, 3) rfl
theorem dX6_readWord_119 : decode cX6_readWord 119 = .ok (.iconst 1, 1) := tb_d tk_X6_readWord_2 26 (119, .iconst 1, 1) rfl
theorem dX6_readWord_120 : decode cX6_readWord 120 = .ok (.iadd, 1) := tb_d tk_X6_readWord_2 27 (120, .iadd, 1) rfl
theorem dX6_readWord_121 : decode cX6_readWord 121 = .ok (.putfield 26, 3) := tb_d tk_X6_readWord_2 28 (121, .putfield 26, 3) rfl
theorem dX6_readWord_124 : decode cX6_readWord 124 = .ok (.iinc 1 1, 3) := tb_d tk_X6_readWord_2 29 (124, .iinc 1 1, 3) rfl
theorem dX6_readWord_127 : decode cX6_readWord 127 = .ok (.goto (-87), 3) := tb_d tk_X6_readWord_2 30 (127, .goto (-87), 3) rfl
theorem dX6_readWord_130 : decode cX6_readWord 130 = .ok (.aload_n 0, 1) := tb_d tk_X6_readWord_2 31 (130, .aload_n 0, 1) rfl
