theorem tb_d {c : ByteArray} {t : List (Nat × Instr × Nat)} (h : (t.all fun q => decide (decode c q.1 = .ok q.2)) = true) (k : Nat) (q : Nat × Instr × Nat) (hk : t[k]? = some q) : decode c q.1 = .ok q.2 :=
  of_decide_eq_true (List.all_eq_true.mp h q (by first | exact List.mem_of_getElem? hk | exact List.getElem?_mem hk))
/-! ===== BEGIN words of one list among another's, by their places ===== -/
theorem goodIn_r {big : List Cond} (ws : List Cond) (ps : List Nat) (hp : ws = ps.filterMap (fun i => big[i]?)) (h : ws.all goodWord = true) : GoodIn big ws := by
  intro w hw
  have h1 := List.all_eq_true.mp h w hw
  rw [hp] at hw
  obtain ⟨i, -, hi⟩ := List.mem_filterMap.mp hw
  have hm : w ∈ big := by first | exact List.mem_of_getElem? hi | exact List.getElem?_mem hi
  exact ⟨hm, good_of_word h1⟩
theorem goodIn_app {big a b : List Cond} (ha : GoodIn big a) (hb : GoodIn big b) : GoodIn big (a ++ b) := fun w h => (List.mem_append.mp h).elim (ha w) (hb w)
theorem goodIn_ca {big a b : List Cond} {c : Cond} (ha : GoodIn big (c :: a)) (hb : GoodIn big b) : GoodIn big (c :: (a ++ b)) := fun w h => (List.mem_cons.mp h).elim (fun e => ha w (List.mem_cons.mpr (Or.inl e))) (fun h => (List.mem_append.mp h).elim (fun h => ha w (List.mem_cons.mpr (Or.inr h))) (hb w))
theorem goodIn_sub {big ws : List Cond} (hm : ∀ w ∈ ws, w ∈ big) (h : ws.all goodWord = true) : GoodIn big ws := fun w hw => ⟨hm w hw, good_of_word (List.all_eq_true.mp h w hw)⟩
/-! ===== END ===== -/

/-! ===== BEGIN printed: names, fields, word lists, decode rows ===== -/
def RX0 : String := "WrongWord$Acts"
def TX0 : u_T := fun k => match k with
  | 0 => ("WrongWord$Acts", "ahead", "[LWrongWord$Moment;", true)
  | 1 => ("WrongWord$Acts", "at", "I", false)
  | _ => ("WrongWord$Acts", "kept", "I", false)
def tyX0 : Nat → FieldType := fun k => match k with
  | 0 => .array (.object "WrongWord$Moment")
  | 1 => .int
  | _ => .int
abbrev wsX00 : List Cond := u_ws RX0 TX0 3
theorem nmX0 : ∀ a, a < 3 → ∀ b, b < 3 → a ≠ b → (TX0 a).2.1 ≠ (TX0 b).2.1 := by decide +kernel
theorem tyX0_ok : ∀ k, k < 3 → parseFieldDescriptor (TX0 k).2.2.1 = some (tyX0 k) := by decide +kernel
abbrev cX0_init : ByteArray := prog_2_method_1_code
def yX0_init : MethodName := ⟨RX0, "<init>", "()V"⟩
abbrev cX0_forget : ByteArray := prog_2_method_2_code
def yX0_forget : MethodName := ⟨RX0, "forget", "()V"⟩
abbrev cX0_keep : ByteArray := prog_2_method_3_code
def yX0_keep : MethodName := ⟨RX0, "keep", "(LWrongWord$Moment;)V"⟩
abbrev cX0_takeBack : ByteArray := prog_2_method_4_code
def yX0_takeBack : MethodName := ⟨RX0, "takeBack", "(LWrongWord$Moment;)Z"⟩
def RX1 : String := "WrongWord$Asks"
def TX1 : u_T := fun k => match k with
  | 0 => ("WrongWord$Asks", "bodies", "[I", true)
  | 1 => ("WrongWord$Asks", "begun", "I", false)
  | 2 => ("WrongWord$Asks", "number", "I", false)
  | 3 => ("WrongWord$Asks", "kind", "I", false)
  | 4 => ("WrongWord$Asks", "fee", "I", false)
  | _ => ("WrongWord$Asks", "took", "I", false)
def tyX1 : Nat → FieldType := fun k => match k with
  | 0 => .array .int
  | 1 => .int
  | 2 => .int
  | 3 => .int
  | 4 => .int
  | _ => .int
abbrev wsX10 : List Cond := u_ws RX1 TX1 6
theorem nmX1 : ∀ a, a < 6 → ∀ b, b < 6 → a ≠ b → (TX1 a).2.1 ≠ (TX1 b).2.1 := by decide +kernel
theorem tyX1_ok : ∀ k, k < 6 → parseFieldDescriptor (TX1 k).2.2.1 = some (tyX1 k) := by decide +kernel
abbrev cX1_init : ByteArray := prog_3_method_1_code
def yX1_init : MethodName := ⟨RX1, "<init>", "()V"⟩
abbrev cX1_isA : ByteArray := prog_3_method_2_code
def yX1_isA : MethodName := ⟨RX1, "isA", "(II)Z"⟩
abbrev cX1_turnTo : ByteArray := prog_3_method_3_code
def yX1_turnTo : MethodName := ⟨RX1, "turnTo", "(IIII)V"⟩
abbrev cX1_answer : ByteArray := prog_3_method_4_code
def yX1_answer : MethodName := ⟨RX1, "answer", "(I)I"⟩
abbrev cX1_sizeBody : ByteArray := prog_3_method_5_code
def yX1_sizeBody : MethodName := ⟨RX1, "sizeBody", "()I"⟩
abbrev cX1_markBody : ByteArray := prog_3_method_6_code
def yX1_markBody : MethodName := ⟨RX1, "markBody", "()I"⟩
abbrev cX1_leave : ByteArray := prog_3_method_7_code
def yX1_leave : MethodName := ⟨RX1, "leave", "(I)V"⟩
abbrev cX1_given : ByteArray := prog_3_method_8_code
def yX1_given : MethodName := ⟨RX1, "given", "(LWrongWord$Asks;II)I"⟩
def RX2 : String := "WrongWord$Gate"
def TX2 : u_T := fun k => match k with
  | 0 => ("WrongWord$Gate", "letters", "[I", true)
  | 1 => ("WrongWord$Gate", "kinds", "[I", true)
  | 2 => ("WrongWord$Gate", "fees", "[I", true)
  | 3 => ("WrongWord$Gate", "now", "LWrongWord$Moment;", true)
  | 4 => ("WrongWord$Gate", "step", "I", false)
  | 5 => ("WrongWord$Gate", "shrove", "I", false)
  | 6 => ("WrongWord$Gate", "words", "I", false)
  | _ => ("WrongWord$Gate", "guards", "I", false)
def tyX2 : Nat → FieldType := fun k => match k with
  | 0 => .array .int
  | 1 => .array .int
  | 2 => .array .int
  | 3 => .object "WrongWord$Moment"
  | 4 => .int
  | 5 => .int
  | 6 => .int
  | _ => .int
abbrev wsX20 : List Cond := u_ws RX2 TX2 8
theorem nmX2 : ∀ a, a < 8 → ∀ b, b < 8 → a ≠ b → (TX2 a).2.1 ≠ (TX2 b).2.1 := by decide +kernel
theorem tyX2_ok : ∀ k, k < 8 → parseFieldDescriptor (TX2 k).2.2.1 = some (tyX2 k) := by decide +kernel
abbrev cX2_init : ByteArray := prog_4_method_1_code
def yX2_init : MethodName := ⟨RX2, "<init>", "()V"⟩
abbrev cX2_become : ByteArray := prog_4_method_2_code
def yX2_become : MethodName := ⟨RX2, "become", "(LWrongWord$Gate;)V"⟩
abbrev cX2_secretBy : ByteArray := prog_4_method_3_code
def yX2_secretBy : MethodName := ⟨RX2, "secretBy", "(IIII)I"⟩
abbrev cX2_secretIn : ByteArray := prog_4_method_4_code
def yX2_secretIn : MethodName := ⟨RX2, "secretIn", "(I)I"⟩
abbrev cX2_distance : ByteArray := prog_4_method_5_code
def yX2_distance : MethodName := ⟨RX2, "distance", "(II)I"⟩
abbrev cX2_lips : ByteArray := prog_4_method_6_code
def yX2_lips : MethodName := ⟨RX2, "lips", "(II)I"⟩
abbrev cX2_guardOn : ByteArray := prog_4_method_7_code
def yX2_guardOn : MethodName := ⟨RX2, "guardOn", "(II)I"⟩
abbrev cX2_isThere : ByteArray := prog_4_method_8_code
def yX2_isThere : MethodName := ⟨RX2, "isThere", "(I)Z"⟩
abbrev cX2_wouldTake : ByteArray := prog_4_method_9_code
def yX2_wouldTake : MethodName := ⟨RX2, "wouldTake", "(IIII)Z"⟩
abbrev cX2_catchesIf : ByteArray := prog_4_method_10_code
def yX2_catchesIf : MethodName := ⟨RX2, "catchesIf", "(IIII)Z"⟩
abbrev cX2_catches : ByteArray := prog_4_method_11_code
def yX2_catches : MethodName := ⟨RX2, "catches", "(III)Z"⟩
abbrev cX2_hoursOf : ByteArray := prog_4_method_12_code
def yX2_hoursOf : MethodName := ⟨RX2, "hoursOf", "(I)I"⟩
abbrev cX2_wordsIn : ByteArray := prog_4_method_13_code
def yX2_wordsIn : MethodName := ⟨RX2, "wordsIn", "(II)I"⟩
abbrev cX2_hoursOpen : ByteArray := prog_4_method_14_code
def yX2_hoursOpen : MethodName := ⟨RX2, "hoursOpen", "(II)I"⟩
abbrev cX2_nightsUntil : ByteArray := prog_4_method_15_code
def yX2_nightsUntil : MethodName := ⟨RX2, "nightsUntil", "(I)I"⟩
abbrev cX2_hourIn : ByteArray := prog_4_method_16_code
def yX2_hourIn : MethodName := ⟨RX2, "hourIn", "(II)I"⟩
abbrev cX2_guardsAgainst : ByteArray := prog_4_method_17_code
def yX2_guardsAgainst : MethodName := ⟨RX2, "guardsAgainst", "(II)I"⟩
abbrev cX2_feeOf : ByteArray := prog_4_method_18_code
def yX2_feeOf : MethodName := ⟨RX2, "feeOf", "(I)I"⟩
abbrev cX2_nearestTo : ByteArray := prog_4_method_19_code
def yX2_nearestTo : MethodName := ⟨RX2, "nearestTo", "(I)I"⟩
def RX3 : String := "WrongWord$Guesses"
def TX3 : u_T := fun k => match k with
  | 0 => ("WrongWord$Guesses", "catching", "[I", true)
  | _ => ("WrongWord$Guesses", "menFor", "[I", true)
def tyX3 : Nat → FieldType := fun k => match k with
  | 0 => .array .int
  | _ => .array .int
abbrev wsX30 : List Cond := u_ws RX3 TX3 2
theorem nmX3 : ∀ a, a < 2 → ∀ b, b < 2 → a ≠ b → (TX3 a).2.1 ≠ (TX3 b).2.1 := by decide +kernel
theorem tyX3_ok : ∀ k, k < 2 → parseFieldDescriptor (TX3 k).2.2.1 = some (tyX3 k) := by decide +kernel
abbrev cX3_init : ByteArray := prog_5_method_1_code
def yX3_init : MethodName := ⟨RX3, "<init>", "()V"⟩
abbrev cX3_agreeing : ByteArray := prog_5_method_2_code
def yX3_agreeing : MethodName := ⟨RX3, "agreeing", "(LWrongWord$Gate;)I"⟩
abbrev cX3_agreesWithTries : ByteArray := prog_5_method_3_code
def yX3_agreesWithTries : MethodName := ⟨RX3, "agreesWithTries", "(LWrongWord$Gate;I)Z"⟩
abbrev cX3_secretsCatching : ByteArray := prog_5_method_4_code
def yX3_secretsCatching : MethodName := ⟨RX3, "secretsCatching", "(LWrongWord$Gate;II)I"⟩
abbrev cX3_leftAtWorst : ByteArray := prog_5_method_5_code
def yX3_leftAtWorst : MethodName := ⟨RX3, "leftAtWorst", "(LWrongWord$Gate;II)I"⟩
abbrev cX3_bestTry : ByteArray := prog_5_method_6_code
def yX3_bestTry : MethodName := ⟨RX3, "bestTry", "(LWrongWord$Gate;I)I"⟩
abbrev cX3_fewestMen : ByteArray := prog_5_method_7_code
def yX3_fewestMen : MethodName := ⟨RX3, "fewestMen", "(LWrongWord$Gate;I)I"⟩
abbrev cX3_menToSplit : ByteArray := prog_5_method_8_code
def yX3_menToSplit : MethodName := ⟨RX3, "menToSplit", "(II)I"⟩
def RX4 : String := "WrongWord$Moment"
def TX4 : u_T := fun k => match k with
  | 0 => ("WrongWord$Moment", "took", "[I", true)
  | 1 => ("WrongWord$Moment", "triedWord", "[I", true)
  | 2 => ("WrongWord$Moment", "triedGuard", "[I", true)
  | 3 => ("WrongWord$Moment", "triedTaken", "[I", true)
  | 4 => ("WrongWord$Moment", "night", "I", false)
  | 5 => ("WrongWord$Moment", "start", "I", false)
  | 6 => ("WrongWord$Moment", "there", "I", false)
  | _ => ("WrongWord$Moment", "tries", "I", false)
def tyX4 : Nat → FieldType := fun k => match k with
  | 0 => .array .int
  | 1 => .array .int
  | 2 => .array .int
  | 3 => .array .int
  | 4 => .int
  | 5 => .int
  | 6 => .int
  | _ => .int
abbrev wsX40 : List Cond := u_ws RX4 TX4 8
theorem nmX4 : ∀ a, a < 8 → ∀ b, b < 8 → a ≠ b → (TX4 a).2.1 ≠ (TX4 b).2.1 := by decide +kernel
theorem tyX4_ok : ∀ k, k < 8 → parseFieldDescriptor (TX4 k).2.2.1 = some (tyX4 k) := by decide +kernel
abbrev cX4_init : ByteArray := prog_6_method_1_code
def yX4_init : MethodName := ⟨RX4, "<init>", "()V"⟩
abbrev cX4_begin : ByteArray := prog_6_method_2_code
def yX4_begin : MethodName := ⟨RX4, "begin", "(I)V"⟩
abbrev cX4_become : ByteArray := prog_6_method_3_code
def yX4_become : MethodName := ⟨RX4, "become", "(LWrongWord$Moment;)V"⟩
abbrev cX4_goBy : ByteArray := prog_6_method_4_code
def yX4_goBy : MethodName := ⟨RX4, "goBy", "()V"⟩
abbrev cX4_addTry : ByteArray := prog_6_method_5_code
def yX4_addTry : MethodName := ⟨RX4, "addTry", "(IIZ)V"⟩
abbrev cX4_tookInAll : ByteArray := prog_6_method_6_code
def yX4_tookInAll : MethodName := ⟨RX4, "tookInAll", "()I"⟩
def RX5 : String := "WrongWord$Row"
def TX5 : u_T := fun k => match k with
  | 0 => ("WrongWord$Row", "items", "[I", true)
  | 1 => ("WrongWord$Row", "lane", "I", false)
  | _ => ("WrongWord$Row", "size", "I", false)
def tyX5 : Nat → FieldType := fun k => match k with
  | 0 => .array .int
  | 1 => .int
  | _ => .int
abbrev wsX50 : List Cond := u_ws RX5 TX5 3
theorem nmX5 : ∀ a, a < 3 → ∀ b, b < 3 → a ≠ b → (TX5 a).2.1 ≠ (TX5 b).2.1 := by decide +kernel
theorem tyX5_ok : ∀ k, k < 3 → parseFieldDescriptor (TX5 k).2.2.1 = some (tyX5 k) := by decide +kernel
abbrev cX5_init : ByteArray := prog_7_method_1_code
def yX5_init : MethodName := ⟨RX5, "<init>", "()V"⟩
abbrev cX5_make : ByteArray := prog_7_method_2_code
def yX5_make : MethodName := ⟨RX5, "make", "(II)V"⟩
abbrev cX5_reaches : ByteArray := prog_7_method_3_code
def yX5_reaches : MethodName := ⟨RX5, "reaches", "(II)Z"⟩
abbrev cX5_findingOf : ByteArray := prog_7_method_4_code
def yX5_findingOf : MethodName := ⟨RX5, "findingOf", "(II)I"⟩
abbrev cX5_put : ByteArray := prog_7_method_5_code
def yX5_put : MethodName := ⟨RX5, "put", "(II)I"⟩
def RX6 : String := "WrongWord$Tape"
def TX6 : u_T := fun k => match k with
  | 0 => ("WrongWord$Tape", "bytes", "[I", true)
  | 1 => ("WrongWord$Tape", "draft", "LWrongWord$Gate;", true)
  | 2 => ("WrongWord$Tape", "length", "I", false)
  | 3 => ("WrongWord$Tape", "fault", "I", false)
  | 4 => ("WrongWord$Tape", "place", "I", false)
  | 5 => ("WrongWord$Tape", "at", "I", false)
  | _ => ("WrongWord$Tape", "value", "I", false)
def tyX6 : Nat → FieldType := fun k => match k with
  | 0 => .array .int
  | 1 => .object "WrongWord$Gate"
  | 2 => .int
  | 3 => .int
  | 4 => .int
  | 5 => .int
  | _ => .int
abbrev wsX60 : List Cond := u_ws RX6 TX6 7
theorem nmX6 : ∀ a, a < 7 → ∀ b, b < 7 → a ≠ b → (TX6 a).2.1 ≠ (TX6 b).2.1 := by decide +kernel
theorem tyX6_ok : ∀ k, k < 7 → parseFieldDescriptor (TX6 k).2.2.1 = some (tyX6 k) := by decide +kernel
abbrev cX6_init : ByteArray := prog_8_method_1_code
def yX6_init : MethodName := ⟨RX6, "<init>", "()V"⟩
abbrev cX6_append : ByteArray := prog_8_method_2_code
def yX6_append : MethodName := ⟨RX6, "append", "(I)Z"⟩
abbrev cX6_read : ByteArray := prog_8_method_3_code
def yX6_read : MethodName := ⟨RX6, "read", "()Z"⟩
abbrev cX6_readLaw : ByteArray := prog_8_method_4_code
def yX6_readLaw : MethodName := ⟨RX6, "readLaw", "()Z"⟩
abbrev cX6_readWord : ByteArray := prog_8_method_5_code
def yX6_readWord : MethodName := ⟨RX6, "readWord", "()Z"⟩
abbrev cX6_wasTold : ByteArray := prog_8_method_6_code
def yX6_wasTold : MethodName := ⟨RX6, "wasTold", "(I)Z"⟩
abbrev cX6_readGuard : ByteArray := prog_8_method_7_code
def yX6_readGuard : MethodName := ⟨RX6, "readGuard", "()Z"⟩
abbrev cX6_kindOf : ByteArray := prog_8_method_8_code
def yX6_kindOf : MethodName := ⟨RX6, "kindOf", "(I)I"⟩
abbrev cX6_readSign : ByteArray := prog_8_method_9_code
def yX6_readSign : MethodName := ⟨RX6, "readSign", "(I)Z"⟩
abbrev cX6_readNumber : ByteArray := prog_8_method_10_code
def yX6_readNumber : MethodName := ⟨RX6, "readNumber", "(I)Z"⟩
abbrev cX6_isFigure : ByteArray := prog_8_method_11_code
def yX6_isFigure : MethodName := ⟨RX6, "isFigure", "(I)Z"⟩
abbrev cX6_here : ByteArray := prog_8_method_12_code
def yX6_here : MethodName := ⟨RX6, "here", "()I"⟩
abbrev cX6_faulty : ByteArray := prog_8_method_13_code
def yX6_faulty : MethodName := ⟨RX6, "faulty", "(I)Z"⟩
def RX7 : String := "WrongWord"
def TX7 : u_T := fun k => match k with
  | 0 => ("WrongWord", "rows", "[LWrongWord$Row;", true)
  | 1 => ("WrongWord", "tape", "LWrongWord$Tape;", true)
  | 2 => ("WrongWord", "gate", "LWrongWord$Gate;", true)
  | 3 => ("WrongWord", "acts", "LWrongWord$Acts;", true)
  | 4 => ("WrongWord", "images", "[LWrongWord$Gate;", true)
  | 5 => ("WrongWord", "guesses", "LWrongWord$Guesses;", true)
  | 6 => ("WrongWord", "asks", "LWrongWord$Asks;", true)
  | 7 => ("WrongWord", "latestFault", "I", false)
  | _ => ("WrongWord", "latestFinding", "I", false)
def tyX7 : Nat → FieldType := fun k => match k with
  | 0 => .array (.object "WrongWord$Row")
  | 1 => .object "WrongWord$Tape"
  | 2 => .object "WrongWord$Gate"
  | 3 => .object "WrongWord$Acts"
  | 4 => .array (.object "WrongWord$Gate")
  | 5 => .object "WrongWord$Guesses"
  | 6 => .object "WrongWord$Asks"
  | 7 => .int
  | _ => .int
abbrev wsX70 : List Cond := u_ws RX7 TX7 9
theorem nmX7 : ∀ a, a < 9 → ∀ b, b < 9 → a ≠ b → (TX7 a).2.1 ≠ (TX7 b).2.1 := by decide +kernel
theorem tyX7_ok : ∀ k, k < 9 → parseFieldDescriptor (TX7 k).2.2.1 = some (tyX7 k) := by decide +kernel
abbrev cX7_init : ByteArray := prog_1_method_1_code
def yX7_init : MethodName := ⟨RX7, "<init>", "()V"⟩
abbrev cX7_row : ByteArray := prog_1_method_2_code
def yX7_row : MethodName := ⟨RX7, "row", "(III)I"⟩
abbrev cX7_set : ByteArray := prog_1_method_3_code
def yX7_set : MethodName := ⟨RX7, "set", "(III)I"⟩
abbrev cX7_copy : ByteArray := prog_1_method_4_code
def yX7_copy : MethodName := ⟨RX7, "copy", "(IIIII)I"⟩
abbrev cX7_drop : ByteArray := prog_1_method_5_code
def yX7_drop : MethodName := ⟨RX7, "drop", "(I)I"⟩
abbrev cX7_feed : ByteArray := prog_1_method_6_code
def yX7_feed : MethodName := ⟨RX7, "feed", "(I)I"⟩
abbrev cX7_gate : ByteArray := prog_1_method_7_code
def yX7_gate : MethodName := ⟨RX7, "gate", "()I"⟩
abbrev cX7_fault : ByteArray := prog_1_method_8_code
def yX7_fault : MethodName := ⟨RX7, "fault", "()I"⟩
abbrev cX7_nights : ByteArray := prog_1_method_9_code
def yX7_nights : MethodName := ⟨RX7, "nights", "(I)I"⟩
abbrev cX7_say : ByteArray := prog_1_method_10_code
def yX7_say : MethodName := ⟨RX7, "say", "(II)I"⟩
abbrev cX7_start : ByteArray := prog_1_method_11_code
def yX7_start : MethodName := ⟨RX7, "start", "(I)I"⟩
abbrev cX7_dismiss : ByteArray := prog_1_method_12_code
def yX7_dismiss : MethodName := ⟨RX7, "dismiss", "(II)I"⟩
abbrev cX7_undo : ByteArray := prog_1_method_13_code
def yX7_undo : MethodName := ⟨RX7, "undo", "()I"⟩
abbrev cX7_letter : ByteArray := prog_1_method_14_code
def yX7_letter : MethodName := ⟨RX7, "letter", "(II)I"⟩
abbrev cX7_like : ByteArray := prog_1_method_15_code
def yX7_like : MethodName := ⟨RX7, "like", "(III)I"⟩
abbrev cX7_guard : ByteArray := prog_1_method_16_code
def yX7_guard : MethodName := ⟨RX7, "guard", "(II)I"⟩
abbrev cX7_tried : ByteArray := prog_1_method_17_code
def yX7_tried : MethodName := ⟨RX7, "tried", "(II)I"⟩
abbrev cX7_secret : ByteArray := prog_1_method_18_code
def yX7_secret : MethodName := ⟨RX7, "secret", "(I)I"⟩
abbrev cX7_taken : ByteArray := prog_1_method_19_code
def yX7_taken : MethodName := ⟨RX7, "taken", "(III)I"⟩
abbrev cX7_safe : ByteArray := prog_1_method_20_code
def yX7_safe : MethodName := ⟨RX7, "safe", "(II)I"⟩
abbrev cX7_open : ByteArray := prog_1_method_21_code
def yX7_open : MethodName := ⟨RX7, "open", "(II)I"⟩
abbrev cX7_next : ByteArray := prog_1_method_22_code
def yX7_next : MethodName := ⟨RX7, "next", "(I)I"⟩
abbrev cX7_agree : ByteArray := prog_1_method_23_code
def yX7_agree : MethodName := ⟨RX7, "agree", "()I"⟩
abbrev cX7_man : ByteArray := prog_1_method_24_code
def yX7_man : MethodName := ⟨RX7, "man", "(I)I"⟩
abbrev cX7_fewest : ByteArray := prog_1_method_25_code
def yX7_fewest : MethodName := ⟨RX7, "fewest", "()I"⟩
abbrev cX7_march : ByteArray := prog_1_method_26_code
def yX7_march : MethodName := ⟨RX7, "march", "(IIII)I"⟩
abbrev cX7_cheap : ByteArray := prog_1_method_27_code
def yX7_cheap : MethodName := ⟨RX7, "cheap", "(III)I"⟩
abbrev cX7_near : ByteArray := prog_1_method_28_code
def yX7_near : MethodName := ⟨RX7, "near", "(II)I"⟩
abbrev cX7_rules : ByteArray := prog_1_method_29_code
def yX7_rules : MethodName := ⟨RX7, "rules", "(IIII)I"⟩
abbrev cX7_fits : ByteArray := prog_1_method_30_code
def yX7_fits : MethodName := ⟨RX7, "fits", "(IIII)I"⟩
abbrev cX7_sure : ByteArray := prog_1_method_31_code
def yX7_sure : MethodName := ⟨RX7, "sure", "(IIII)I"⟩
abbrev cX7_drawn : ByteArray := prog_1_method_32_code
def yX7_drawn : MethodName := ⟨RX7, "drawn", "(III)I"⟩
abbrev cX7_image : ByteArray := prog_1_method_33_code
def yX7_image : MethodName := ⟨RX7, "image", "(I)I"⟩
abbrev cX7_restore : ByteArray := prog_1_method_34_code
def yX7_restore : MethodName := ⟨RX7, "restore", "(I)I"⟩
abbrev cX7_kind : ByteArray := prog_1_method_35_code
def yX7_kind : MethodName := ⟨RX7, "kind", "(I)I"⟩
abbrev cX7_as : ByteArray := prog_1_method_36_code
def yX7_as : MethodName := ⟨RX7, "as", "(II)I"⟩
abbrev cX7_ask : ByteArray := prog_1_method_37_code
def yX7_ask : MethodName := ⟨RX7, "ask", "(II)I"⟩
abbrev cX7_trace : ByteArray := prog_1_method_38_code
def yX7_trace : MethodName := ⟨RX7, "trace", "(I)I"⟩
abbrev cX7_count : ByteArray := prog_1_method_39_code
def yX7_count : MethodName := ⟨RX7, "count", "(I)I"⟩
abbrev cX7_status : ByteArray := prog_1_method_40_code
def yX7_status : MethodName := ⟨RX7, "status", "()I"⟩
abbrev cX7_found : ByteArray := prog_1_method_41_code
def yX7_found : MethodName := ⟨RX7, "found", "(I)I"⟩
abbrev cX7_unfound : ByteArray := prog_1_method_42_code
def yX7_unfound : MethodName := ⟨RX7, "unfound", "(I)I"⟩
abbrev cX7_noGate : ByteArray := prog_1_method_43_code
def yX7_noGate : MethodName := ⟨RX7, "noGate", "()Z"⟩
abbrev cX7_isRow : ByteArray := prog_1_method_44_code
def yX7_isRow : MethodName := ⟨RX7, "isRow", "(I)Z"⟩
abbrev cX7_isWord : ByteArray := prog_1_method_45_code
def yX7_isWord : MethodName := ⟨RX7, "isWord", "(I)Z"⟩
abbrev cX7_areWords : ByteArray := prog_1_method_46_code
def yX7_areWords : MethodName := ⟨RX7, "areWords", "(I)Z"⟩
abbrev cX7_isGuard : ByteArray := prog_1_method_47_code
def yX7_isGuard : MethodName := ⟨RX7, "isGuard", "(I)Z"⟩
abbrev cX7_isHour : ByteArray := prog_1_method_48_code
def yX7_isHour : MethodName := ⟨RX7, "isHour", "(I)Z"⟩
abbrev cX7_isAhead : ByteArray := prog_1_method_49_code
def yX7_isAhead : MethodName := ⟨RX7, "isAhead", "(I)Z"⟩
abbrev cX7_rowsThere : ByteArray := prog_1_method_50_code
def yX7_rowsThere : MethodName := ⟨RX7, "rowsThere", "()I"⟩
abbrev cX7_hourOfLast : ByteArray := prog_1_method_51_code
def yX7_hourOfLast : MethodName := ⟨RX7, "hourOfLast", "(LWrongWord$Row;II)I"⟩
abbrev cX7_rulesThatTell : ByteArray := prog_1_method_52_code
def yX7_rulesThatTell : MethodName := ⟨RX7, "rulesThatTell", "(LWrongWord$Row;III)I"⟩
abbrev cX7_kindsThatFit : ByteArray := prog_1_method_53_code
def yX7_kindsThatFit : MethodName := ⟨RX7, "kindsThatFit", "(LWrongWord$Row;I)I"⟩
abbrev cX7_secretsThatFit : ByteArray := prog_1_method_54_code
def yX7_secretsThatFit : MethodName := ⟨RX7, "secretsThatFit", "(ILWrongWord$Row;I)I"⟩
abbrev cX7_fitsTold : ByteArray := prog_1_method_55_code
def yX7_fitsTold : MethodName := ⟨RX7, "fitsTold", "(IILWrongWord$Row;I)Z"⟩
abbrev cX7_bit : ByteArray := prog_1_method_56_code
def yX7_bit : MethodName := ⟨RX7, "bit", "(Z)I"⟩
abbrev cX7_rest : ByteArray := prog_1_method_57_code
def yX7_rest : MethodName := ⟨RX7, "rest", "(II)I"⟩
abbrev cX7_lowest : ByteArray := prog_1_method_58_code
def yX7_lowest : MethodName := ⟨RX7, "lowest", "(II)I"⟩
abbrev cX7_commonDivisor : ByteArray := prog_1_method_59_code
def yX7_commonDivisor : MethodName := ⟨RX7, "commonDivisor", "(II)I"⟩
def RX8 : String := "WrongWordModel"
def TX8 : u_T := fun k => match k with
  | 0 => ("WrongWordModel", "lane", "[I", true)
  | 1 => ("WrongWordModel", "many", "[I", true)
  | 2 => ("WrongWordModel", "items", "[I", true)
  | 3 => ("WrongWordModel", "spare", "[I", true)
  | 4 => ("WrongWordModel", "status", "I", false)
  | 5 => ("WrongWordModel", "tape", "[I", true)
  | 6 => ("WrongWordModel", "taped", "I", false)
  | 7 => ("WrongWordModel", "faultKind", "I", false)
  | 8 => ("WrongWordModel", "faultPlace", "I", false)
  | 9 => ("WrongWordModel", "at", "I", false)
  | 10 => ("WrongWordModel", "start", "I", false)
  | 11 => ("WrongWordModel", "token", "I", false)
  | 12 => ("WrongWordModel", "value", "I", false)
  | 13 => ("WrongWordModel", "now", "[I", true)
  | 14 => ("WrongWordModel", "draft", "[I", true)
  | 15 => ("WrongWordModel", "tried", "[I", true)
  | 16 => ("WrongWordModel", "past", "[I", true)
  | 17 => ("WrongWordModel", "acts", "I", false)
  | 18 => ("WrongWordModel", "images", "[I", true)
  | 19 => ("WrongWordModel", "kept", "[Z", true)
  | 20 => ("WrongWordModel", "men", "[I", true)
  | 21 => ("WrongWordModel", "trace", "[I", true)
  | _ => ("WrongWordModel", "traced", "I", false)
def tyX8 : Nat → FieldType := fun k => match k with
  | 0 => .array .int
  | 1 => .array .int
  | 2 => .array .int
  | 3 => .array .int
  | 4 => .int
  | 5 => .array .int
  | 6 => .int
  | 7 => .int
  | 8 => .int
  | 9 => .int
  | 10 => .int
  | 11 => .int
  | 12 => .int
  | 13 => .array .int
  | 14 => .array .int
  | 15 => .array .int
  | 16 => .array .int
  | 17 => .int
  | 18 => .array .int
  | 19 => .array .boolean
  | 20 => .array .int
  | 21 => .array .int
  | _ => .int
abbrev wsX80 : List Cond := u_ws RX8 TX8 23
theorem nmX8 : ∀ a, a < 23 → ∀ b, b < 23 → a ≠ b → (TX8 a).2.1 ≠ (TX8 b).2.1 := by decide +kernel
theorem tyX8_ok : ∀ k, k < 23 → parseFieldDescriptor (TX8 k).2.2.1 = some (tyX8 k) := by decide +kernel
abbrev cX8_init : ByteArray := prog_10_method_1_code
def yX8_init : MethodName := ⟨RX8, "<init>", "()V"⟩
abbrev cX8_in : ByteArray := prog_10_method_3_code
def yX8_in : MethodName := ⟨RX8, "in", "(III)Z"⟩
abbrev cX8_has : ByteArray := prog_10_method_4_code
def yX8_has : MethodName := ⟨RX8, "has", "(II)Z"⟩
abbrev cX8_ones : ByteArray := prog_10_method_5_code
def yX8_ones : MethodName := ⟨RX8, "ones", "(I)I"⟩
abbrev cX8_found : ByteArray := prog_10_method_6_code
def yX8_found : MethodName := ⟨RX8, "found", "(I)I"⟩
abbrev cX8_well : ByteArray := prog_10_method_7_code
def yX8_well : MethodName := ⟨RX8, "well", "(I)I"⟩
abbrev cX8_copies : ByteArray := prog_10_method_8_code
def yX8_copies : MethodName := ⟨RX8, "copies", "([II[II)V"⟩
abbrev cX8_isRow : ByteArray := prog_10_method_9_code
def yX8_isRow : MethodName := ⟨RX8, "isRow", "(I)Z"⟩
abbrev cX8_isMissing : ByteArray := prog_10_method_10_code
def yX8_isMissing : MethodName := ⟨RX8, "isMissing", "(I)Z"⟩
abbrev cX8_cut : ByteArray := prog_10_method_11_code
def yX8_cut : MethodName := ⟨RX8, "cut", "(II)I"⟩
abbrev cX8_row : ByteArray := prog_10_method_12_code
def yX8_row : MethodName := ⟨RX8, "row", "(III)I"⟩
abbrev cX8_set : ByteArray := prog_10_method_13_code
def yX8_set : MethodName := ⟨RX8, "set", "(III)I"⟩
abbrev cX8_isPart : ByteArray := prog_10_method_14_code
def yX8_isPart : MethodName := ⟨RX8, "isPart", "(III)Z"⟩
abbrev cX8_copy : ByteArray := prog_10_method_15_code
def yX8_copy : MethodName := ⟨RX8, "copy", "(IIIII)I"⟩
abbrev cX8_drop : ByteArray := prog_10_method_16_code
def yX8_drop : MethodName := ⟨RX8, "drop", "(I)I"⟩
abbrev cX8_feed : ByteArray := prog_10_method_17_code
def yX8_feed : MethodName := ⟨RX8, "feed", "(I)I"⟩
abbrev cX8_byteAt : ByteArray := prog_10_method_18_code
def yX8_byteAt : MethodName := ⟨RX8, "byteAt", "(I)I"⟩
abbrev cX8_advances : ByteArray := prog_10_method_19_code
def yX8_advances : MethodName := ⟨RX8, "advances", "()V"⟩
abbrev cX8_isWell : ByteArray := prog_10_method_20_code
def yX8_isWell : MethodName := ⟨RX8, "isWell", "()Z"⟩
abbrev cX8_takes : ByteArray := prog_10_method_21_code
def yX8_takes : MethodName := ⟨RX8, "takes", "(ZI)I"⟩
abbrev cX8_figure : ByteArray := prog_10_method_22_code
def yX8_figure : MethodName := ⟨RX8, "figure", "(II)I"⟩
abbrev cX8_kindOf : ByteArray := prog_10_method_23_code
def yX8_kindOf : MethodName := ⟨RX8, "kindOf", "(I)I"⟩
abbrev cX8_follows : ByteArray := prog_10_method_24_code
def yX8_follows : MethodName := ⟨RX8, "follows", "(II)I"⟩
abbrev cX8_isTold : ByteArray := prog_10_method_25_code
def yX8_isTold : MethodName := ⟨RX8, "isTold", "(III)Z"⟩
abbrev cX8_letterOf : ByteArray := prog_10_method_26_code
def yX8_letterOf : MethodName := ⟨RX8, "letterOf", "()I"⟩
abbrev cX8_readsWord : ByteArray := prog_10_method_27_code
def yX8_readsWord : MethodName := ⟨RX8, "readsWord", "()V"⟩
abbrev cX8_readsGuard : ByteArray := prog_10_method_28_code
def yX8_readsGuard : MethodName := ⟨RX8, "readsGuard", "()V"⟩
abbrev cX8_must : ByteArray := prog_10_method_29_code
def yX8_must : MethodName := ⟨RX8, "must", "(Z)V"⟩
abbrev cX8_gate : ByteArray := prog_10_method_30_code
def yX8_gate : MethodName := ⟨RX8, "gate", "()I"⟩
abbrev cX8_fault : ByteArray := prog_10_method_31_code
def yX8_fault : MethodName := ⟨RX8, "fault", "()I"⟩
abbrev cX8_isGate : ByteArray := prog_10_method_32_code
def yX8_isGate : MethodName := ⟨RX8, "isGate", "()Z"⟩
abbrev cX8_isWord : ByteArray := prog_10_method_33_code
def yX8_isWord : MethodName := ⟨RX8, "isWord", "(I)Z"⟩
abbrev cX8_isGuard : ByteArray := prog_10_method_34_code
def yX8_isGuard : MethodName := ⟨RX8, "isGuard", "(I)Z"⟩
abbrev cX8_isHour : ByteArray := prog_10_method_35_code
def yX8_isHour : MethodName := ⟨RX8, "isHour", "(I)Z"⟩
abbrev cX8_isFar : ByteArray := prog_10_method_36_code
def yX8_isFar : MethodName := ⟨RX8, "isFar", "(I)Z"⟩
abbrev cX8_areWords : ByteArray := prog_10_method_37_code
def yX8_areWords : MethodName := ⟨RX8, "areWords", "(I)Z"⟩
abbrev cX8_secretOf : ByteArray := prog_10_method_38_code
def yX8_secretOf : MethodName := ⟨RX8, "secretOf", "([II)I"⟩
abbrev cX8_distance : ByteArray := prog_10_method_39_code
def yX8_distance : MethodName := ⟨RX8, "distance", "(II)I"⟩
abbrev cX8_lips : ByteArray := prog_10_method_40_code
def yX8_lips : MethodName := ⟨RX8, "lips", "(II)I"⟩
abbrev cX8_takesBy : ByteArray := prog_10_method_41_code
def yX8_takesBy : MethodName := ⟨RX8, "takesBy", "(IIII)Z"⟩
abbrev cX8_guardOn : ByteArray := prog_10_method_42_code
def yX8_guardOn : MethodName := ⟨RX8, "guardOn", "(II)I"⟩
abbrev cX8_kindIn : ByteArray := prog_10_method_43_code
def yX8_kindIn : MethodName := ⟨RX8, "kindIn", "(I)I"⟩
abbrev cX8_isTaken : ByteArray := prog_10_method_44_code
def yX8_isTaken : MethodName := ⟨RX8, "isTaken", "(IIIII)Z"⟩
abbrev cX8_isTakenNow : ByteArray := prog_10_method_45_code
def yX8_isTakenNow : MethodName := ⟨RX8, "isTakenNow", "(III)Z"⟩
abbrev cX8_notes : ByteArray := prog_10_method_46_code
def yX8_notes : MethodName := ⟨RX8, "notes", "()V"⟩
abbrev cX8_forgets : ByteArray := prog_10_method_47_code
def yX8_forgets : MethodName := ⟨RX8, "forgets", "()V"⟩
abbrev cX8_nights : ByteArray := prog_10_method_48_code
def yX8_nights : MethodName := ⟨RX8, "nights", "(I)I"⟩
abbrev cX8_say : ByteArray := prog_10_method_49_code
def yX8_say : MethodName := ⟨RX8, "say", "(II)I"⟩
abbrev cX8_start : ByteArray := prog_10_method_50_code
def yX8_start : MethodName := ⟨RX8, "start", "(I)I"⟩
abbrev cX8_dismiss : ByteArray := prog_10_method_51_code
def yX8_dismiss : MethodName := ⟨RX8, "dismiss", "(II)I"⟩
abbrev cX8_undo : ByteArray := prog_10_method_52_code
def yX8_undo : MethodName := ⟨RX8, "undo", "()I"⟩
abbrev cX8_letter : ByteArray := prog_10_method_53_code
def yX8_letter : MethodName := ⟨RX8, "letter", "(II)I"⟩
abbrev cX8_like : ByteArray := prog_10_method_54_code
def yX8_like : MethodName := ⟨RX8, "like", "(III)I"⟩
abbrev cX8_hoursOf : ByteArray := prog_10_method_55_code
def yX8_hoursOf : MethodName := ⟨RX8, "hoursOf", "(I)I"⟩
abbrev cX8_guard : ByteArray := prog_10_method_56_code
def yX8_guard : MethodName := ⟨RX8, "guard", "(II)I"⟩
abbrev cX8_tried : ByteArray := prog_10_method_57_code
def yX8_tried : MethodName := ⟨RX8, "tried", "(II)I"⟩
abbrev cX8_secret : ByteArray := prog_10_method_58_code
def yX8_secret : MethodName := ⟨RX8, "secret", "(I)I"⟩
abbrev cX8_taken : ByteArray := prog_10_method_59_code
def yX8_taken : MethodName := ⟨RX8, "taken", "(III)I"⟩
abbrev cX8_safe : ByteArray := prog_10_method_60_code
def yX8_safe : MethodName := ⟨RX8, "safe", "(II)I"⟩
abbrev cX8_areIn : ByteArray := prog_10_method_61_code
def yX8_areIn : MethodName := ⟨RX8, "areIn", "(IIII)Z"⟩
abbrev cX8_open : ByteArray := prog_10_method_62_code
def yX8_open : MethodName := ⟨RX8, "open", "(II)I"⟩
abbrev cX8_next : ByteArray := prog_10_method_63_code
def yX8_next : MethodName := ⟨RX8, "next", "(I)I"⟩
abbrev cX8_agreeing : ByteArray := prog_10_method_64_code
def yX8_agreeing : MethodName := ⟨RX8, "agreeing", "()I"⟩
abbrev cX8_agree : ByteArray := prog_10_method_65_code
def yX8_agree : MethodName := ⟨RX8, "agree", "()I"⟩
abbrev cX8_takenOf : ByteArray := prog_10_method_66_code
def yX8_takenOf : MethodName := ⟨RX8, "takenOf", "(III)I"⟩
abbrev cX8_man : ByteArray := prog_10_method_67_code
def yX8_man : MethodName := ⟨RX8, "man", "(I)I"⟩
abbrev cX8_menFor : ByteArray := prog_10_method_68_code
def yX8_menFor : MethodName := ⟨RX8, "menFor", "(I)I"⟩
abbrev cX8_fewest : ByteArray := prog_10_method_69_code
def yX8_fewest : MethodName := ⟨RX8, "fewest", "()I"⟩
abbrev cX8_march : ByteArray := prog_10_method_70_code
def yX8_march : MethodName := ⟨RX8, "march", "(IIII)I"⟩
abbrev cX8_cheap : ByteArray := prog_10_method_71_code
def yX8_cheap : MethodName := ⟨RX8, "cheap", "(III)I"⟩
abbrev cX8_near : ByteArray := prog_10_method_72_code
def yX8_near : MethodName := ⟨RX8, "near", "(II)I"⟩
abbrev cX8_rules : ByteArray := prog_10_method_73_code
def yX8_rules : MethodName := ⟨RX8, "rules", "(IIII)I"⟩
abbrev cX8_takesSo : ByteArray := prog_10_method_74_code
def yX8_takesSo : MethodName := ⟨RX8, "takesSo", "(III)Z"⟩
abbrev cX8_fits : ByteArray := prog_10_method_75_code
def yX8_fits : MethodName := ⟨RX8, "fits", "(IIII)I"⟩
abbrev cX8_sure : ByteArray := prog_10_method_76_code
def yX8_sure : MethodName := ⟨RX8, "sure", "(IIII)I"⟩
abbrev cX8_drawn : ByteArray := prog_10_method_77_code
def yX8_drawn : MethodName := ⟨RX8, "drawn", "(III)I"⟩
abbrev cX8_image : ByteArray := prog_10_method_78_code
def yX8_image : MethodName := ⟨RX8, "image", "(I)I"⟩
abbrev cX8_restore : ByteArray := prog_10_method_79_code
def yX8_restore : MethodName := ⟨RX8, "restore", "(I)I"⟩
abbrev cX8_kind : ByteArray := prog_10_method_80_code
def yX8_kind : MethodName := ⟨RX8, "kind", "(I)I"⟩
abbrev cX8_as : ByteArray := prog_10_method_81_code
def yX8_as : MethodName := ⟨RX8, "as", "(II)I"⟩
abbrev cX8_begins : ByteArray := prog_10_method_82_code
def yX8_begins : MethodName := ⟨RX8, "begins", "(I)V"⟩
abbrev cX8_keenMark : ByteArray := prog_10_method_83_code
def yX8_keenMark : MethodName := ⟨RX8, "keenMark", "(I)I"⟩
abbrev cX8_deafSize : ByteArray := prog_10_method_84_code
def yX8_deafSize : MethodName := ⟨RX8, "deafSize", "(I)I"⟩
abbrev cX8_keenSize : ByteArray := prog_10_method_85_code
def yX8_keenSize : MethodName := ⟨RX8, "keenSize", "(I)I"⟩
abbrev cX8_deafMark : ByteArray := prog_10_method_86_code
def yX8_deafMark : MethodName := ⟨RX8, "deafMark", "(I)I"⟩
abbrev cX8_ask : ByteArray := prog_10_method_87_code
def yX8_ask : MethodName := ⟨RX8, "ask", "(II)I"⟩
abbrev cX8_trace : ByteArray := prog_10_method_88_code
def yX8_trace : MethodName := ⟨RX8, "trace", "(I)I"⟩
abbrev cX8_count : ByteArray := prog_10_method_89_code
def yX8_count : MethodName := ⟨RX8, "count", "(I)I"⟩
abbrev cX8_status : ByteArray := prog_10_method_90_code
def yX8_status : MethodName := ⟨RX8, "status", "()I"⟩
def RJ6 : String := "java/lang/Integer"
def TJ6 : u_T := fun k => match k with
  | _ => ("", "", "", false)
def tyJ6 : Nat → FieldType := fun k => match k with
  | _ => .int
abbrev wsJ60 : List Cond := u_ws RJ6 TJ6 0
theorem nmJ6 : ∀ a, a < 0 → ∀ b, b < 0 → a ≠ b → (TJ6 a).2.1 ≠ (TJ6 b).2.1 := by decide +kernel
theorem tyJ6_ok : ∀ k, k < 0 → parseFieldDescriptor (TJ6 k).2.2.1 = some (tyJ6 k) := by decide +kernel
abbrev cJ6_bitCount_0f7a4 : ByteArray := prog_11_method_49_code
def yJ6_bitCount_0f7a4 : MethodName := ⟨RJ6, "bitCount", "(I)I"⟩
def RJ9 : String := "java/lang/Math"
def TJ9 : u_T := fun k => match k with
  | _ => ("", "", "", false)
def tyJ9 : Nat → FieldType := fun k => match k with
  | _ => .int
abbrev wsJ90 : List Cond := u_ws RJ9 TJ9 0
theorem nmJ9 : ∀ a, a < 0 → ∀ b, b < 0 → a ≠ b → (TJ9 a).2.1 ≠ (TJ9 b).2.1 := by decide +kernel
theorem tyJ9_ok : ∀ k, k < 0 → parseFieldDescriptor (TJ9 k).2.2.1 = some (tyJ9 k) := by decide +kernel
abbrev cJ9_max_7cf53 : ByteArray := prog_12_method_65_code
def yJ9_max_7cf53 : MethodName := ⟨RJ9, "max", "(II)I"⟩
abbrev cJ9_min_7cf53 : ByteArray := prog_12_method_69_code
def yJ9_min_7cf53 : MethodName := ⟨RJ9, "min", "(II)I"⟩
def RJ10 : String := "java/lang/System"
def TJ10 : u_T := fun k => match k with
  | _ => ("", "", "", false)
def tyJ10 : Nat → FieldType := fun k => match k with
  | _ => .int
abbrev wsJ100 : List Cond := u_ws RJ10 TJ10 0
theorem nmJ10 : ∀ a, a < 0 → ∀ b, b < 0 → a ≠ b → (TJ10 a).2.1 ≠ (TJ10 b).2.1 := by decide +kernel
theorem tyJ10_ok : ∀ k, k < 0 → parseFieldDescriptor (TJ10 k).2.2.1 = some (tyJ10 k) := by decide +kernel
def RL : String := "WrongWordLaw"
abbrev cL_law : ByteArray := code
def yL_law : MethodName := ⟨RL, "law", "([I)Z"⟩
set_option maxRecDepth 100000 in
theorem mem_r {big : List Cond} (ws : List Cond) (ps : List Nat) (hp : ws = ps.filterMap (fun i => big[i]?)) : ∀ w ∈ ws, w ∈ big := fun w hw => by
  rw [hp] at hw
  obtain ⟨i, -, hi⟩ := List.mem_filterMap.mp hw
  first | exact List.mem_of_getElem? hi | exact List.getElem?_mem hi
theorem gd_o {ws : List Cond} (h : ws.all goodWord = true) : ∀ w ∈ ws, goodWord w = true := fun w hw => List.all_eq_true.mp h w hw
theorem ch_0 : ∀ w ∈ k2_sels lw_privs, w ∈ lw_tbl := fun _ h => List.mem_append_left _ h
theorem ch_1 : ∀ w ∈ tables_1_1, w ∈ lw_tbl := fun _ h => List.mem_append_right _ (List.mem_append_left _ h)
theorem ch_2 : ∀ w ∈ tables_1_2, w ∈ lw_tbl := fun _ h => List.mem_append_right _ (List.mem_append_right _ (List.mem_append_left _ h))
theorem ch_3 : ∀ w ∈ tables_1_3, w ∈ lw_tbl := fun _ h => List.mem_append_right _ (List.mem_append_right _ (List.mem_append_right _ (List.mem_append_left _ h)))
theorem ch_4 : ∀ w ∈ tables_1_4, w ∈ lw_tbl := fun _ h => List.mem_append_right _ (List.mem_append_right _ (List.mem_append_right _ (List.mem_append_right _ (List.mem_append_left _ h))))
theorem ch_5 : ∀ w ∈ tables_1_5, w ∈ lw_tbl := fun _ h => List.mem_append_right _ (List.mem_append_right _ (List.mem_append_right _ (List.mem_append_right _ (List.mem_append_right _ (h)))))
set_option maxRecDepth 100000 in
theorem itX00 : ∀ w ∈ wsX00, w ∈ lw_tbl := fun w h => ch_1 w (mem_r (big := tables_1_1) _ [170, 172, 174] (by decide +kernel) w h)
set_option maxRecDepth 100000 in
theorem gdX00 : ∀ w ∈ wsX00, goodWord w = true := by decide +kernel
set_option maxRecDepth 100000 in
theorem itX10 : ∀ w ∈ wsX10, w ∈ lw_tbl := fun w h => ch_1 w (mem_r (big := tables_1_1) _ [205, 207, 209, 211, 213, 215] (by decide +kernel) w h)
set_option maxRecDepth 100000 in
theorem gdX10 : ∀ w ∈ wsX10, goodWord w = true := by decide +kernel
set_option maxRecDepth 100000 in
theorem itX20 : ∀ w ∈ wsX20, w ∈ lw_tbl := fun w h => ch_1 w (mem_r (big := tables_1_1) _ [112, 114, 116, 118, 120, 122, 124, 126] (by decide +kernel) w h)
set_option maxRecDepth 100000 in
theorem gdX20 : ∀ w ∈ wsX20, goodWord w = true := by decide +kernel
set_option maxRecDepth 100000 in
theorem itX30 : ∀ w ∈ wsX30, w ∈ lw_tbl := fun w h => ch_1 w (mem_r (big := tables_1_1) _ [186, 188] (by decide +kernel) w h)
set_option maxRecDepth 100000 in
theorem gdX30 : ∀ w ∈ wsX30, goodWord w = true := by decide +kernel
set_option maxRecDepth 100000 in
theorem itX40 : ∀ w ∈ wsX40, w ∈ lw_tbl := fun w h => ch_1 w (mem_r (big := tables_1_1) _ [66, 68, 70, 72, 74, 76, 78, 80] (by decide +kernel) w h)
set_option maxRecDepth 100000 in
theorem gdX40 : ∀ w ∈ wsX40, goodWord w = true := by decide +kernel
set_option maxRecDepth 100000 in
theorem itX50 : ∀ w ∈ wsX50, w ∈ lw_tbl := fun w h => ch_1 w (mem_r (big := tables_1_1) _ [229, 231, 233] (by decide +kernel) w h)
set_option maxRecDepth 100000 in
theorem gdX50 : ∀ w ∈ wsX50, goodWord w = true := by decide +kernel
set_option maxRecDepth 100000 in
theorem itX60 : ∀ w ∈ wsX60, w ∈ lw_tbl := fun w h => ch_1 w (mem_r (big := tables_1_1) _ [140, 142, 144, 146, 148, 150, 152] (by decide +kernel) w h)
set_option maxRecDepth 100000 in
theorem gdX60 : ∀ w ∈ wsX60, goodWord w = true := by decide +kernel
set_option maxRecDepth 100000 in
theorem itX70 : ∀ w ∈ wsX70, w ∈ lw_tbl := fun w h => ch_2 w (mem_r (big := tables_1_2) _ [5, 7, 9, 11, 13, 15, 17, 19, 21] (by decide +kernel) w h)
set_option maxRecDepth 100000 in
theorem gdX70 : ∀ w ∈ wsX70, goodWord w = true := by decide +kernel
set_option maxRecDepth 100000 in
theorem itX80 : ∀ w ∈ wsX80, w ∈ lw_tbl := fun w h => ch_4 w (mem_r (big := tables_1_4) _ [74, 76, 78, 80, 82, 84, 86, 88, 90, 92, 94, 96, 98, 100, 102, 104, 106, 108, 110, 112, 114, 116, 118] (by decide +kernel) w h)
set_option maxRecDepth 100000 in
theorem gdX80 : ∀ w ∈ wsX80, goodWord w = true := by decide +kernel
def bkV (own : String) (idx : Nat) (C : String) (y : MethodName) : List Cond := [.methodLink own idx y, .instanceMethod y, .selects C y y, .initialized C]
def bkS (own : String) (idx : Nat) (y : MethodName) : List Cond := [.methodLink own idx y, .static y, .initialized y.cls]
theorem gd_bV (own : String) (idx : Nat) (C : String) (y : MethodName) : ∀ w ∈ bkV own idx C y, goodWord w = true := List.forall_mem_cons.mpr ⟨rfl, List.forall_mem_cons.mpr ⟨rfl, List.forall_mem_cons.mpr ⟨rfl, List.forall_mem_cons.mpr ⟨rfl, fun _ h => absurd h List.not_mem_nil⟩⟩⟩⟩
theorem gd_bS (own : String) (idx : Nat) (y : MethodName) : ∀ w ∈ bkS own idx y, goodWord w = true := List.forall_mem_cons.mpr ⟨rfl, List.forall_mem_cons.mpr ⟨rfl, List.forall_mem_cons.mpr ⟨rfl, fun _ h => absurd h List.not_mem_nil⟩⟩⟩
set_option maxRecDepth 100000 in
theorem tw_0 : (Cond.selects RX7 yX7_isRow yX7_isRow) ∈ lw_tbl := ch_0 _ (List.mem_of_getElem? (l := k2_sels lw_privs) (i := 0) (by decide +kernel))
set_option maxRecDepth 100000 in
theorem tw_1 : (Cond.selects RX7 yX7_found yX7_found) ∈ lw_tbl := ch_0 _ (List.mem_of_getElem? (l := k2_sels lw_privs) (i := 1) (by decide +kernel))
set_option maxRecDepth 100000 in
theorem tw_2 : (Cond.selects RX7 yX7_unfound yX7_unfound) ∈ lw_tbl := ch_0 _ (List.mem_of_getElem? (l := k2_sels lw_privs) (i := 2) (by decide +kernel))
set_option maxRecDepth 100000 in
theorem tw_3 : (Cond.selects RX6 yX6_readLaw yX6_readLaw) ∈ lw_tbl := ch_0 _ (List.mem_of_getElem? (l := k2_sels lw_privs) (i := 3) (by decide +kernel))
set_option maxRecDepth 100000 in
theorem tw_4 : (Cond.selects RX6 yX6_readSign yX6_readSign) ∈ lw_tbl := ch_0 _ (List.mem_of_getElem? (l := k2_sels lw_privs) (i := 4) (by decide +kernel))
set_option maxRecDepth 100000 in
theorem tw_5 : (Cond.selects RX6 yX6_here yX6_here) ∈ lw_tbl := ch_0 _ (List.mem_of_getElem? (l := k2_sels lw_privs) (i := 5) (by decide +kernel))
set_option maxRecDepth 100000 in
theorem tw_6 : (Cond.selects RX6 yX6_faulty yX6_faulty) ∈ lw_tbl := ch_0 _ (List.mem_of_getElem? (l := k2_sels lw_privs) (i := 6) (by decide +kernel))
set_option maxRecDepth 100000 in
theorem tw_7 : (Cond.selects RX6 yX6_readNumber yX6_readNumber) ∈ lw_tbl := ch_0 _ (List.mem_of_getElem? (l := k2_sels lw_privs) (i := 7) (by decide +kernel))
set_option maxRecDepth 100000 in
theorem tw_8 : (Cond.selects RX6 yX6_readWord yX6_readWord) ∈ lw_tbl := ch_0 _ (List.mem_of_getElem? (l := k2_sels lw_privs) (i := 8) (by decide +kernel))
set_option maxRecDepth 100000 in
theorem tw_9 : (Cond.selects RX6 yX6_wasTold yX6_wasTold) ∈ lw_tbl := ch_0 _ (List.mem_of_getElem? (l := k2_sels lw_privs) (i := 9) (by decide +kernel))
set_option maxRecDepth 100000 in
theorem tw_10 : (Cond.selects RX6 yX6_readGuard yX6_readGuard) ∈ lw_tbl := ch_0 _ (List.mem_of_getElem? (l := k2_sels lw_privs) (i := 10) (by decide +kernel))
set_option maxRecDepth 100000 in
theorem tw_11 : (Cond.selects RX7 yX7_noGate yX7_noGate) ∈ lw_tbl := ch_0 _ (List.mem_of_getElem? (l := k2_sels lw_privs) (i := 11) (by decide +kernel))
set_option maxRecDepth 100000 in
theorem tw_12 : (Cond.selects RX7 yX7_isWord yX7_isWord) ∈ lw_tbl := ch_0 _ (List.mem_of_getElem? (l := k2_sels lw_privs) (i := 12) (by decide +kernel))
set_option maxRecDepth 100000 in
theorem tw_13 : (Cond.selects RX7 yX7_isHour yX7_isHour) ∈ lw_tbl := ch_0 _ (List.mem_of_getElem? (l := k2_sels lw_privs) (i := 13) (by decide +kernel))
set_option maxRecDepth 100000 in
theorem tw_14 : (Cond.selects RX7 yX7_isGuard yX7_isGuard) ∈ lw_tbl := ch_0 _ (List.mem_of_getElem? (l := k2_sels lw_privs) (i := 14) (by decide +kernel))
set_option maxRecDepth 100000 in
theorem tw_15 : (Cond.selects RX7 yX7_isAhead yX7_isAhead) ∈ lw_tbl := ch_0 _ (List.mem_of_getElem? (l := k2_sels lw_privs) (i := 15) (by decide +kernel))
set_option maxRecDepth 100000 in
theorem tw_16 : (Cond.selects RX7 yX7_areWords yX7_areWords) ∈ lw_tbl := ch_0 _ (List.mem_of_getElem? (l := k2_sels lw_privs) (i := 16) (by decide +kernel))
set_option maxRecDepth 100000 in
theorem tw_17 : (Cond.selects RX3 yX3_menToSplit yX3_menToSplit) ∈ lw_tbl := ch_0 _ (List.mem_of_getElem? (l := k2_sels lw_privs) (i := 17) (by decide +kernel))
set_option maxRecDepth 100000 in
theorem tw_18 : (Cond.selects RX7 yX7_hourOfLast yX7_hourOfLast) ∈ lw_tbl := ch_0 _ (List.mem_of_getElem? (l := k2_sels lw_privs) (i := 18) (by decide +kernel))
set_option maxRecDepth 100000 in
theorem tw_19 : (Cond.selects RX7 yX7_rulesThatTell yX7_rulesThatTell) ∈ lw_tbl := ch_0 _ (List.mem_of_getElem? (l := k2_sels lw_privs) (i := 19) (by decide +kernel))
set_option maxRecDepth 100000 in
theorem tw_20 : (Cond.selects RX7 yX7_kindsThatFit yX7_kindsThatFit) ∈ lw_tbl := ch_0 _ (List.mem_of_getElem? (l := k2_sels lw_privs) (i := 20) (by decide +kernel))
set_option maxRecDepth 100000 in
theorem tw_21 : (Cond.selects RX7 yX7_fitsTold yX7_fitsTold) ∈ lw_tbl := ch_0 _ (List.mem_of_getElem? (l := k2_sels lw_privs) (i := 21) (by decide +kernel))
set_option maxRecDepth 100000 in
theorem tw_22 : (Cond.selects RX7 yX7_secretsThatFit yX7_secretsThatFit) ∈ lw_tbl := ch_0 _ (List.mem_of_getElem? (l := k2_sels lw_privs) (i := 22) (by decide +kernel))
set_option maxRecDepth 100000 in
theorem tw_23 : (Cond.selects RX1 yX1_sizeBody yX1_sizeBody) ∈ lw_tbl := ch_0 _ (List.mem_of_getElem? (l := k2_sels lw_privs) (i := 23) (by decide +kernel))
set_option maxRecDepth 100000 in
theorem tw_24 : (Cond.selects RX1 yX1_markBody yX1_markBody) ∈ lw_tbl := ch_0 _ (List.mem_of_getElem? (l := k2_sels lw_privs) (i := 24) (by decide +kernel))
set_option maxRecDepth 100000 in
theorem tw_25 : (Cond.selects RX1 yX1_leave yX1_leave) ∈ lw_tbl := ch_0 _ (List.mem_of_getElem? (l := k2_sels lw_privs) (i := 25) (by decide +kernel))
set_option maxRecDepth 100000 in
theorem tw_26 : (Cond.selects RX7 yX7_rowsThere yX7_rowsThere) ∈ lw_tbl := ch_0 _ (List.mem_of_getElem? (l := k2_sels lw_privs) (i := 26) (by decide +kernel))
set_option maxRecDepth 100000 in
theorem tw_27 : (Cond.selects RX8 yX8_found yX8_found) ∈ lw_tbl := ch_0 _ (List.mem_of_getElem? (l := k2_sels lw_privs) (i := 27) (by decide +kernel))
set_option maxRecDepth 100000 in
theorem tw_28 : (Cond.selects RX8 yX8_well yX8_well) ∈ lw_tbl := ch_0 _ (List.mem_of_getElem? (l := k2_sels lw_privs) (i := 28) (by decide +kernel))
set_option maxRecDepth 100000 in
theorem tw_29 : (Cond.selects RX8 yX8_isMissing yX8_isMissing) ∈ lw_tbl := ch_0 _ (List.mem_of_getElem? (l := k2_sels lw_privs) (i := 29) (by decide +kernel))
set_option maxRecDepth 100000 in
theorem tw_30 : (Cond.selects RX8 yX8_isPart yX8_isPart) ∈ lw_tbl := ch_0 _ (List.mem_of_getElem? (l := k2_sels lw_privs) (i := 30) (by decide +kernel))
set_option maxRecDepth 100000 in
theorem tw_31 : (Cond.selects RX8 yX8_advances yX8_advances) ∈ lw_tbl := ch_0 _ (List.mem_of_getElem? (l := k2_sels lw_privs) (i := 31) (by decide +kernel))
set_option maxRecDepth 100000 in
theorem tw_32 : (Cond.selects RX8 yX8_byteAt yX8_byteAt) ∈ lw_tbl := ch_0 _ (List.mem_of_getElem? (l := k2_sels lw_privs) (i := 32) (by decide +kernel))
set_option maxRecDepth 100000 in
theorem tw_33 : (Cond.selects RX8 yX8_takes yX8_takes) ∈ lw_tbl := ch_0 _ (List.mem_of_getElem? (l := k2_sels lw_privs) (i := 33) (by decide +kernel))
set_option maxRecDepth 100000 in
theorem tw_34 : (Cond.selects RX8 yX8_isWell yX8_isWell) ∈ lw_tbl := ch_0 _ (List.mem_of_getElem? (l := k2_sels lw_privs) (i := 34) (by decide +kernel))
set_option maxRecDepth 100000 in
theorem tw_35 : (Cond.selects RX8 yX8_figure yX8_figure) ∈ lw_tbl := ch_0 _ (List.mem_of_getElem? (l := k2_sels lw_privs) (i := 35) (by decide +kernel))
set_option maxRecDepth 100000 in
theorem tw_36 : (Cond.selects RX8 yX8_follows yX8_follows) ∈ lw_tbl := ch_0 _ (List.mem_of_getElem? (l := k2_sels lw_privs) (i := 36) (by decide +kernel))
set_option maxRecDepth 100000 in
theorem tw_37 : (Cond.selects RX8 yX8_must yX8_must) ∈ lw_tbl := ch_0 _ (List.mem_of_getElem? (l := k2_sels lw_privs) (i := 37) (by decide +kernel))
set_option maxRecDepth 100000 in
theorem tw_38 : (Cond.selects RX8 yX8_readsWord yX8_readsWord) ∈ lw_tbl := ch_0 _ (List.mem_of_getElem? (l := k2_sels lw_privs) (i := 38) (by decide +kernel))
set_option maxRecDepth 100000 in
theorem tw_39 : (Cond.selects RX8 yX8_letterOf yX8_letterOf) ∈ lw_tbl := ch_0 _ (List.mem_of_getElem? (l := k2_sels lw_privs) (i := 39) (by decide +kernel))
set_option maxRecDepth 100000 in
theorem tw_40 : (Cond.selects RX8 yX8_isTold yX8_isTold) ∈ lw_tbl := ch_0 _ (List.mem_of_getElem? (l := k2_sels lw_privs) (i := 40) (by decide +kernel))
set_option maxRecDepth 100000 in
theorem tw_41 : (Cond.selects RX8 yX8_readsGuard yX8_readsGuard) ∈ lw_tbl := ch_0 _ (List.mem_of_getElem? (l := k2_sels lw_privs) (i := 41) (by decide +kernel))
set_option maxRecDepth 100000 in
theorem tw_42 : (Cond.selects RX8 yX8_isGate yX8_isGate) ∈ lw_tbl := ch_0 _ (List.mem_of_getElem? (l := k2_sels lw_privs) (i := 42) (by decide +kernel))
set_option maxRecDepth 100000 in
theorem tw_43 : (Cond.selects RX8 yX8_notes yX8_notes) ∈ lw_tbl := ch_0 _ (List.mem_of_getElem? (l := k2_sels lw_privs) (i := 43) (by decide +kernel))
set_option maxRecDepth 100000 in
theorem tw_44 : (Cond.selects RX8 yX8_forgets yX8_forgets) ∈ lw_tbl := ch_0 _ (List.mem_of_getElem? (l := k2_sels lw_privs) (i := 44) (by decide +kernel))
set_option maxRecDepth 100000 in
theorem tw_45 : (Cond.selects RX8 yX8_isWord yX8_isWord) ∈ lw_tbl := ch_0 _ (List.mem_of_getElem? (l := k2_sels lw_privs) (i := 45) (by decide +kernel))
set_option maxRecDepth 100000 in
theorem tw_46 : (Cond.selects RX8 yX8_guardOn yX8_guardOn) ∈ lw_tbl := ch_0 _ (List.mem_of_getElem? (l := k2_sels lw_privs) (i := 46) (by decide +kernel))
set_option maxRecDepth 100000 in
theorem tw_47 : (Cond.selects RX8 yX8_isTakenNow yX8_isTakenNow) ∈ lw_tbl := ch_0 _ (List.mem_of_getElem? (l := k2_sels lw_privs) (i := 47) (by decide +kernel))
set_option maxRecDepth 100000 in
theorem tw_48 : (Cond.selects RX8 yX8_isTaken yX8_isTaken) ∈ lw_tbl := ch_0 _ (List.mem_of_getElem? (l := k2_sels lw_privs) (i := 48) (by decide +kernel))
set_option maxRecDepth 100000 in
theorem tw_49 : (Cond.selects RX8 yX8_kindIn yX8_kindIn) ∈ lw_tbl := ch_0 _ (List.mem_of_getElem? (l := k2_sels lw_privs) (i := 49) (by decide +kernel))
set_option maxRecDepth 100000 in
theorem tw_50 : (Cond.selects RX8 yX8_takesBy yX8_takesBy) ∈ lw_tbl := ch_0 _ (List.mem_of_getElem? (l := k2_sels lw_privs) (i := 50) (by decide +kernel))
set_option maxRecDepth 100000 in
theorem tw_51 : (Cond.selects RX8 yX8_distance yX8_distance) ∈ lw_tbl := ch_0 _ (List.mem_of_getElem? (l := k2_sels lw_privs) (i := 51) (by decide +kernel))
set_option maxRecDepth 100000 in
theorem tw_52 : (Cond.selects RX8 yX8_lips yX8_lips) ∈ lw_tbl := ch_0 _ (List.mem_of_getElem? (l := k2_sels lw_privs) (i := 52) (by decide +kernel))
set_option maxRecDepth 100000 in
theorem tw_53 : (Cond.selects RX8 yX8_isGuard yX8_isGuard) ∈ lw_tbl := ch_0 _ (List.mem_of_getElem? (l := k2_sels lw_privs) (i := 53) (by decide +kernel))
set_option maxRecDepth 100000 in
theorem tw_54 : (Cond.selects RX8 yX8_hoursOf yX8_hoursOf) ∈ lw_tbl := ch_0 _ (List.mem_of_getElem? (l := k2_sels lw_privs) (i := 54) (by decide +kernel))
set_option maxRecDepth 100000 in
theorem tw_55 : (Cond.selects RX8 yX8_areWords yX8_areWords) ∈ lw_tbl := ch_0 _ (List.mem_of_getElem? (l := k2_sels lw_privs) (i := 55) (by decide +kernel))
set_option maxRecDepth 100000 in
theorem tw_56 : (Cond.selects RX8 yX8_areIn yX8_areIn) ∈ lw_tbl := ch_0 _ (List.mem_of_getElem? (l := k2_sels lw_privs) (i := 56) (by decide +kernel))
set_option maxRecDepth 100000 in
theorem tw_57 : (Cond.selects RX8 yX8_agreeing yX8_agreeing) ∈ lw_tbl := ch_0 _ (List.mem_of_getElem? (l := k2_sels lw_privs) (i := 57) (by decide +kernel))
set_option maxRecDepth 100000 in
theorem tw_58 : (Cond.selects RX8 yX8_takenOf yX8_takenOf) ∈ lw_tbl := ch_0 _ (List.mem_of_getElem? (l := k2_sels lw_privs) (i := 58) (by decide +kernel))
set_option maxRecDepth 100000 in
theorem tw_59 : (Cond.selects RX8 yX8_menFor yX8_menFor) ∈ lw_tbl := ch_0 _ (List.mem_of_getElem? (l := k2_sels lw_privs) (i := 59) (by decide +kernel))
set_option maxRecDepth 100000 in
theorem tw_60 : (Cond.selects RX8 yX8_takesSo yX8_takesSo) ∈ lw_tbl := ch_0 _ (List.mem_of_getElem? (l := k2_sels lw_privs) (i := 60) (by decide +kernel))
set_option maxRecDepth 100000 in
theorem tw_61 : (Cond.selects RX8 yX8_deafSize yX8_deafSize) ∈ lw_tbl := ch_0 _ (List.mem_of_getElem? (l := k2_sels lw_privs) (i := 61) (by decide +kernel))
set_option maxRecDepth 100000 in
theorem tw_62 : (Cond.selects RX8 yX8_begins yX8_begins) ∈ lw_tbl := ch_0 _ (List.mem_of_getElem? (l := k2_sels lw_privs) (i := 62) (by decide +kernel))
set_option maxRecDepth 100000 in
theorem tw_63 : (Cond.selects RX8 yX8_keenSize yX8_keenSize) ∈ lw_tbl := ch_0 _ (List.mem_of_getElem? (l := k2_sels lw_privs) (i := 63) (by decide +kernel))
set_option maxRecDepth 100000 in
theorem tw_64 : (Cond.selects RX8 yX8_keenMark yX8_keenMark) ∈ lw_tbl := ch_0 _ (List.mem_of_getElem? (l := k2_sels lw_privs) (i := 64) (by decide +kernel))
set_option maxRecDepth 100000 in
theorem tw_65 : (Cond.selects RX8 yX8_deafMark yX8_deafMark) ∈ lw_tbl := ch_0 _ (List.mem_of_getElem? (l := k2_sels lw_privs) (i := 65) (by decide +kernel))
set_option maxRecDepth 100000 in
theorem tw_67 : (Cond.initialized RX7) ∈ lw_tbl := ch_1 _ (List.mem_of_getElem? (l := tables_1_1) (i := 1) rfl)
set_option maxRecDepth 100000 in
theorem tw_68 : (Cond.initialized RX6) ∈ lw_tbl := ch_1 _ (List.mem_of_getElem? (l := tables_1_1) (i := 2) rfl)
set_option maxRecDepth 100000 in
theorem tw_69 : (Cond.initialized RX2) ∈ lw_tbl := ch_1 _ (List.mem_of_getElem? (l := tables_1_1) (i := 3) rfl)
set_option maxRecDepth 100000 in
theorem tw_70 : (Cond.initialized RX4) ∈ lw_tbl := ch_1 _ (List.mem_of_getElem? (l := tables_1_1) (i := 4) rfl)
set_option maxRecDepth 100000 in
theorem tw_71 : (Cond.initialized RX0) ∈ lw_tbl := ch_1 _ (List.mem_of_getElem? (l := tables_1_1) (i := 5) rfl)
set_option maxRecDepth 100000 in
theorem tw_72 : (Cond.initialized RX3) ∈ lw_tbl := ch_1 _ (List.mem_of_getElem? (l := tables_1_1) (i := 6) rfl)
set_option maxRecDepth 100000 in
theorem tw_73 : (Cond.initialized RX1) ∈ lw_tbl := ch_1 _ (List.mem_of_getElem? (l := tables_1_1) (i := 7) rfl)
set_option maxRecDepth 100000 in
theorem tw_74 : (Cond.initialized RX5) ∈ lw_tbl := ch_1 _ (List.mem_of_getElem? (l := tables_1_1) (i := 8) rfl)
set_option maxRecDepth 100000 in
theorem tw_75 : (Cond.initialized "WrongWordModel") ∈ lw_tbl := ch_1 _ (List.mem_of_getElem? (l := tables_1_1) (i := 9) rfl)
set_option maxRecDepth 100000 in
theorem tw_76 : (Cond.initialized "java/lang/System") ∈ lw_tbl := ch_1 _ (List.mem_of_getElem? (l := tables_1_1) (i := 10) rfl)
set_option maxRecDepth 100000 in
theorem tw_77 : (Cond.initialized "java/lang/Math") ∈ lw_tbl := ch_1 _ (List.mem_of_getElem? (l := tables_1_1) (i := 11) rfl)
set_option maxRecDepth 100000 in
theorem tw_78 : (Cond.initialized "java/lang/Integer") ∈ lw_tbl := ch_1 _ (List.mem_of_getElem? (l := tables_1_1) (i := 12) rfl)
set_option maxRecDepth 100000 in
theorem tw_79 : (Cond.classLink RL 7 RX7) ∈ lw_tbl := ch_1 _ (List.mem_of_getElem? (l := tables_1_1) (i := 13) rfl)
set_option maxRecDepth 100000 in
theorem tw_80 : (Cond.instantiable RX7 9) ∈ lw_tbl := ch_1 _ (List.mem_of_getElem? (l := tables_1_1) (i := 14) rfl)
set_option maxRecDepth 100000 in
theorem tw_81 : (Cond.methodLink RL 9 yX7_init) ∈ lw_tbl := ch_1 _ (List.mem_of_getElem? (l := tables_1_1) (i := 15) rfl)
set_option maxRecDepth 100000 in
theorem tw_82 : (Cond.instanceMethod yX7_init) ∈ lw_tbl := ch_1 _ (List.mem_of_getElem? (l := tables_1_1) (i := 16) rfl)
set_option maxRecDepth 100000 in
theorem tw_83 : (Cond.code yX7_init cX7_init 2 none) ∈ lw_tbl := ch_1 _ (List.mem_of_getElem? (l := tables_1_1) (i := 17) rfl)
set_option maxRecDepth 100000 in
theorem tw_84 : (Cond.methodLink RX7 1 objectInit) ∈ lw_tbl := ch_1 _ (List.mem_of_getElem? (l := tables_1_1) (i := 18) rfl)
set_option maxRecDepth 100000 in
theorem tw_85 : (Cond.instanceMethod objectInit) ∈ lw_tbl := ch_1 _ (List.mem_of_getElem? (l := tables_1_1) (i := 19) rfl)
set_option maxRecDepth 100000 in
theorem tw_86 : (Cond.code objectInit ⟨#[0xb1]⟩ 1 none) ∈ lw_tbl := ch_1 _ (List.mem_of_getElem? (l := tables_1_1) (i := 20) rfl)
set_option maxRecDepth 100000 in
theorem tw_87 : (Cond.classLink RX7 9 RX5) ∈ lw_tbl := ch_1 _ (List.mem_of_getElem? (l := tables_1_1) (i := 21) rfl)
set_option maxRecDepth 100000 in
theorem tw_89 : (Cond.classLink RX7 15 RX6) ∈ lw_tbl := ch_1 _ (List.mem_of_getElem? (l := tables_1_1) (i := 23) rfl)
set_option maxRecDepth 100000 in
theorem tw_90 : (Cond.instantiable RX6 7) ∈ lw_tbl := ch_1 _ (List.mem_of_getElem? (l := tables_1_1) (i := 24) rfl)
set_option maxRecDepth 100000 in
theorem tw_92 : (Cond.instanceMethod yX6_init) ∈ lw_tbl := ch_1 _ (List.mem_of_getElem? (l := tables_1_1) (i := 26) rfl)
set_option maxRecDepth 100000 in
theorem tw_93 : (Cond.code yX6_init cX6_init 1 none) ∈ lw_tbl := ch_1 _ (List.mem_of_getElem? (l := tables_1_1) (i := 27) rfl)
set_option maxRecDepth 100000 in
theorem tw_94 : (Cond.methodLink RX6 3 objectInit) ∈ lw_tbl := ch_1 _ (List.mem_of_getElem? (l := tables_1_1) (i := 28) rfl)
set_option maxRecDepth 100000 in
theorem tw_95 : (Cond.classLink RX6 15 RX2) ∈ lw_tbl := ch_1 _ (List.mem_of_getElem? (l := tables_1_1) (i := 29) rfl)
set_option maxRecDepth 100000 in
theorem tw_96 : (Cond.instantiable RX2 8) ∈ lw_tbl := ch_1 _ (List.mem_of_getElem? (l := tables_1_1) (i := 30) rfl)
set_option maxRecDepth 100000 in
theorem tw_98 : (Cond.instanceMethod yX2_init) ∈ lw_tbl := ch_1 _ (List.mem_of_getElem? (l := tables_1_1) (i := 32) rfl)
set_option maxRecDepth 100000 in
theorem tw_99 : (Cond.code yX2_init cX2_init 1 none) ∈ lw_tbl := ch_1 _ (List.mem_of_getElem? (l := tables_1_1) (i := 33) rfl)
set_option maxRecDepth 100000 in
theorem tw_100 : (Cond.methodLink RX2 3 objectInit) ∈ lw_tbl := ch_1 _ (List.mem_of_getElem? (l := tables_1_1) (i := 34) rfl)
set_option maxRecDepth 100000 in
theorem tw_101 : (Cond.classLink RX2 21 RX4) ∈ lw_tbl := ch_1 _ (List.mem_of_getElem? (l := tables_1_1) (i := 35) rfl)
set_option maxRecDepth 100000 in
theorem tw_102 : (Cond.instantiable RX4 8) ∈ lw_tbl := ch_1 _ (List.mem_of_getElem? (l := tables_1_1) (i := 36) rfl)
set_option maxRecDepth 100000 in
theorem tw_104 : (Cond.instanceMethod yX4_init) ∈ lw_tbl := ch_1 _ (List.mem_of_getElem? (l := tables_1_1) (i := 38) rfl)
set_option maxRecDepth 100000 in
theorem tw_105 : (Cond.code yX4_init cX4_init 1 none) ∈ lw_tbl := ch_1 _ (List.mem_of_getElem? (l := tables_1_1) (i := 39) rfl)
set_option maxRecDepth 100000 in
theorem tw_106 : (Cond.methodLink RX4 3 objectInit) ∈ lw_tbl := ch_1 _ (List.mem_of_getElem? (l := tables_1_1) (i := 40) rfl)
set_option maxRecDepth 100000 in
theorem tw_107 : (Cond.fieldLink RX4 9 "WrongWord$Moment" "took" "[I") ∈ lw_tbl := ch_1 _ (List.mem_of_getElem? (l := tables_1_1) (i := 41) rfl)
set_option maxRecDepth 100000 in
theorem tw_108 : (Cond.fieldLink RX7 212 "WrongWord$Moment" "took" "[I") ∈ lw_tbl := ch_1 _ (List.mem_of_getElem? (l := tables_1_1) (i := 42) rfl)
set_option maxRecDepth 100000 in
theorem tw_109 : (Cond.fieldLink RX4 15 "WrongWord$Moment" "triedWord" "[I") ∈ lw_tbl := ch_1 _ (List.mem_of_getElem? (l := tables_1_1) (i := 43) rfl)
set_option maxRecDepth 100000 in
theorem tw_110 : (Cond.fieldLink RX3 50 "WrongWord$Moment" "triedWord" "[I") ∈ lw_tbl := ch_1 _ (List.mem_of_getElem? (l := tables_1_1) (i := 44) rfl)
set_option maxRecDepth 100000 in
theorem tw_111 : (Cond.fieldLink RX7 218 "WrongWord$Moment" "triedWord" "[I") ∈ lw_tbl := ch_1 _ (List.mem_of_getElem? (l := tables_1_1) (i := 45) rfl)
set_option maxRecDepth 100000 in
theorem tw_112 : (Cond.fieldLink RX4 18 "WrongWord$Moment" "triedGuard" "[I") ∈ lw_tbl := ch_1 _ (List.mem_of_getElem? (l := tables_1_1) (i := 46) rfl)
set_option maxRecDepth 100000 in
theorem tw_113 : (Cond.fieldLink RX3 41 "WrongWord$Moment" "triedGuard" "[I") ∈ lw_tbl := ch_1 _ (List.mem_of_getElem? (l := tables_1_1) (i := 47) rfl)
set_option maxRecDepth 100000 in
theorem tw_114 : (Cond.fieldLink RX7 221 "WrongWord$Moment" "triedGuard" "[I") ∈ lw_tbl := ch_1 _ (List.mem_of_getElem? (l := tables_1_1) (i := 48) rfl)
set_option maxRecDepth 100000 in
theorem tw_115 : (Cond.fieldLink RX4 21 "WrongWord$Moment" "triedTaken" "[I") ∈ lw_tbl := ch_1 _ (List.mem_of_getElem? (l := tables_1_1) (i := 49) rfl)
set_option maxRecDepth 100000 in
theorem tw_116 : (Cond.fieldLink RX3 60 "WrongWord$Moment" "triedTaken" "[I") ∈ lw_tbl := ch_1 _ (List.mem_of_getElem? (l := tables_1_1) (i := 50) rfl)
set_option maxRecDepth 100000 in
theorem tw_117 : (Cond.fieldLink RX7 224 "WrongWord$Moment" "triedTaken" "[I") ∈ lw_tbl := ch_1 _ (List.mem_of_getElem? (l := tables_1_1) (i := 51) rfl)
set_option maxRecDepth 100000 in
theorem tw_118 : (Cond.fieldLink RX4 24 "WrongWord$Moment" "night" "I") ∈ lw_tbl := ch_1 _ (List.mem_of_getElem? (l := tables_1_1) (i := 52) rfl)
set_option maxRecDepth 100000 in
theorem tw_119 : (Cond.fieldLink RX3 53 "WrongWord$Moment" "night" "I") ∈ lw_tbl := ch_1 _ (List.mem_of_getElem? (l := tables_1_1) (i := 53) rfl)
set_option maxRecDepth 100000 in
theorem tw_120 : (Cond.fieldLink RX2 58 "WrongWord$Moment" "night" "I") ∈ lw_tbl := ch_1 _ (List.mem_of_getElem? (l := tables_1_1) (i := 54) rfl)
set_option maxRecDepth 100000 in
theorem tw_121 : (Cond.fieldLink RX7 141 "WrongWord$Moment" "night" "I") ∈ lw_tbl := ch_1 _ (List.mem_of_getElem? (l := tables_1_1) (i := 55) rfl)
set_option maxRecDepth 100000 in
theorem tw_122 : (Cond.fieldLink RX4 34 "WrongWord$Moment" "start" "I") ∈ lw_tbl := ch_1 _ (List.mem_of_getElem? (l := tables_1_1) (i := 56) rfl)
set_option maxRecDepth 100000 in
theorem tw_123 : (Cond.fieldLink RX2 55 "WrongWord$Moment" "start" "I") ∈ lw_tbl := ch_1 _ (List.mem_of_getElem? (l := tables_1_1) (i := 57) rfl)
set_option maxRecDepth 100000 in
theorem tw_124 : (Cond.fieldLink RX6 69 "WrongWord$Moment" "start" "I") ∈ lw_tbl := ch_1 _ (List.mem_of_getElem? (l := tables_1_1) (i := 58) rfl)
set_option maxRecDepth 100000 in
theorem tw_125 : (Cond.fieldLink RX7 184 "WrongWord$Moment" "start" "I") ∈ lw_tbl := ch_1 _ (List.mem_of_getElem? (l := tables_1_1) (i := 59) rfl)
set_option maxRecDepth 100000 in
theorem tw_126 : (Cond.fieldLink RX4 28 "WrongWord$Moment" "there" "I") ∈ lw_tbl := ch_1 _ (List.mem_of_getElem? (l := tables_1_1) (i := 60) rfl)
set_option maxRecDepth 100000 in
theorem tw_127 : (Cond.fieldLink RX2 65 "WrongWord$Moment" "there" "I") ∈ lw_tbl := ch_1 _ (List.mem_of_getElem? (l := tables_1_1) (i := 61) rfl)
set_option maxRecDepth 100000 in
theorem tw_128 : (Cond.fieldLink RX7 190 "WrongWord$Moment" "there" "I") ∈ lw_tbl := ch_1 _ (List.mem_of_getElem? (l := tables_1_1) (i := 62) rfl)
set_option maxRecDepth 100000 in
theorem tw_129 : (Cond.fieldLink RX4 31 "WrongWord$Moment" "tries" "I") ∈ lw_tbl := ch_1 _ (List.mem_of_getElem? (l := tables_1_1) (i := 63) rfl)
set_option maxRecDepth 100000 in
theorem tw_130 : (Cond.fieldLink RX3 36 "WrongWord$Moment" "tries" "I") ∈ lw_tbl := ch_1 _ (List.mem_of_getElem? (l := tables_1_1) (i := 64) rfl)
set_option maxRecDepth 100000 in
theorem tw_131 : (Cond.fieldLink RX7 162 "WrongWord$Moment" "tries" "I") ∈ lw_tbl := ch_1 _ (List.mem_of_getElem? (l := tables_1_1) (i := 65) rfl)
set_option maxRecDepth 100000 in
theorem tw_149 : (Cond.arrayClass .int) ∈ lw_tbl := ch_1 _ (List.mem_of_getElem? (l := tables_1_1) (i := 83) rfl)
set_option maxRecDepth 100000 in
theorem tw_150 : (Cond.fieldLink RX2 9 "WrongWord$Gate" "letters" "[I") ∈ lw_tbl := ch_1 _ (List.mem_of_getElem? (l := tables_1_1) (i := 84) rfl)
set_option maxRecDepth 100000 in
theorem tw_151 : (Cond.fieldLink RX6 81 "WrongWord$Gate" "letters" "[I") ∈ lw_tbl := ch_1 _ (List.mem_of_getElem? (l := tables_1_1) (i := 85) rfl)
set_option maxRecDepth 100000 in
theorem tw_152 : (Cond.fieldLink RX7 200 "WrongWord$Gate" "letters" "[I") ∈ lw_tbl := ch_1 _ (List.mem_of_getElem? (l := tables_1_1) (i := 86) rfl)
set_option maxRecDepth 100000 in
theorem tw_153 : (Cond.fieldLink RX2 15 "WrongWord$Gate" "kinds" "[I") ∈ lw_tbl := ch_1 _ (List.mem_of_getElem? (l := tables_1_1) (i := 87) rfl)
set_option maxRecDepth 100000 in
theorem tw_154 : (Cond.fieldLink RX3 47 "WrongWord$Gate" "kinds" "[I") ∈ lw_tbl := ch_1 _ (List.mem_of_getElem? (l := tables_1_1) (i := 88) rfl)
set_option maxRecDepth 100000 in
theorem tw_155 : (Cond.fieldLink RX6 96 "WrongWord$Gate" "kinds" "[I") ∈ lw_tbl := ch_1 _ (List.mem_of_getElem? (l := tables_1_1) (i := 89) rfl)
set_option maxRecDepth 100000 in
theorem tw_156 : (Cond.fieldLink RX7 278 "WrongWord$Gate" "kinds" "[I") ∈ lw_tbl := ch_1 _ (List.mem_of_getElem? (l := tables_1_1) (i := 90) rfl)
set_option maxRecDepth 100000 in
theorem tw_157 : (Cond.fieldLink RX2 18 "WrongWord$Gate" "fees" "[I") ∈ lw_tbl := ch_1 _ (List.mem_of_getElem? (l := tables_1_1) (i := 91) rfl)
set_option maxRecDepth 100000 in
theorem tw_158 : (Cond.fieldLink RX6 99 "WrongWord$Gate" "fees" "[I") ∈ lw_tbl := ch_1 _ (List.mem_of_getElem? (l := tables_1_1) (i := 92) rfl)
set_option maxRecDepth 100000 in
theorem tw_159 : (Cond.fieldLink RX7 209 "WrongWord$Gate" "fees" "[I") ∈ lw_tbl := ch_1 _ (List.mem_of_getElem? (l := tables_1_1) (i := 93) rfl)
set_option maxRecDepth 100000 in
theorem tw_160 : (Cond.fieldLink RX2 24 "WrongWord$Gate" "now" "LWrongWord$Moment;") ∈ lw_tbl := ch_1 _ (List.mem_of_getElem? (l := tables_1_1) (i := 94) rfl)
set_option maxRecDepth 100000 in
theorem tw_161 : (Cond.fieldLink RX3 32 "WrongWord$Gate" "now" "LWrongWord$Moment;") ∈ lw_tbl := ch_1 _ (List.mem_of_getElem? (l := tables_1_1) (i := 95) rfl)
set_option maxRecDepth 100000 in
theorem tw_162 : (Cond.fieldLink RX6 49 "WrongWord$Gate" "now" "LWrongWord$Moment;") ∈ lw_tbl := ch_1 _ (List.mem_of_getElem? (l := tables_1_1) (i := 96) rfl)
set_option maxRecDepth 100000 in
theorem tw_163 : (Cond.fieldLink RX7 137 "WrongWord$Gate" "now" "LWrongWord$Moment;") ∈ lw_tbl := ch_1 _ (List.mem_of_getElem? (l := tables_1_1) (i := 97) rfl)
set_option maxRecDepth 100000 in
theorem tw_164 : (Cond.fieldLink RX2 38 "WrongWord$Gate" "step" "I") ∈ lw_tbl := ch_1 _ (List.mem_of_getElem? (l := tables_1_1) (i := 98) rfl)
set_option maxRecDepth 100000 in
theorem tw_165 : (Cond.fieldLink RX6 72 "WrongWord$Gate" "step" "I") ∈ lw_tbl := ch_1 _ (List.mem_of_getElem? (l := tables_1_1) (i := 99) rfl)
set_option maxRecDepth 100000 in
theorem tw_166 : (Cond.fieldLink RX7 340 "WrongWord$Gate" "step" "I") ∈ lw_tbl := ch_1 _ (List.mem_of_getElem? (l := tables_1_1) (i := 100) rfl)
set_option maxRecDepth 100000 in
theorem tw_167 : (Cond.fieldLink RX2 42 "WrongWord$Gate" "shrove" "I") ∈ lw_tbl := ch_1 _ (List.mem_of_getElem? (l := tables_1_1) (i := 101) rfl)
set_option maxRecDepth 100000 in
theorem tw_168 : (Cond.fieldLink RX6 75 "WrongWord$Gate" "shrove" "I") ∈ lw_tbl := ch_1 _ (List.mem_of_getElem? (l := tables_1_1) (i := 102) rfl)
set_option maxRecDepth 100000 in
theorem tw_169 : (Cond.fieldLink RX7 343 "WrongWord$Gate" "shrove" "I") ∈ lw_tbl := ch_1 _ (List.mem_of_getElem? (l := tables_1_1) (i := 103) rfl)
set_option maxRecDepth 100000 in
theorem tw_170 : (Cond.fieldLink RX3 18 "WrongWord$Gate" "words" "I") ∈ lw_tbl := ch_1 _ (List.mem_of_getElem? (l := tables_1_1) (i := 104) rfl)
set_option maxRecDepth 100000 in
theorem tw_171 : (Cond.fieldLink RX2 45 "WrongWord$Gate" "words" "I") ∈ lw_tbl := ch_1 _ (List.mem_of_getElem? (l := tables_1_1) (i := 105) rfl)
set_option maxRecDepth 100000 in
theorem tw_172 : (Cond.fieldLink RX6 29 "WrongWord$Gate" "words" "I") ∈ lw_tbl := ch_1 _ (List.mem_of_getElem? (l := tables_1_1) (i := 106) rfl)
set_option maxRecDepth 100000 in
theorem tw_173 : (Cond.fieldLink RX7 130 "WrongWord$Gate" "words" "I") ∈ lw_tbl := ch_1 _ (List.mem_of_getElem? (l := tables_1_1) (i := 107) rfl)
set_option maxRecDepth 100000 in
theorem tw_174 : (Cond.fieldLink RX2 48 "WrongWord$Gate" "guards" "I") ∈ lw_tbl := ch_1 _ (List.mem_of_getElem? (l := tables_1_1) (i := 108) rfl)
set_option maxRecDepth 100000 in
theorem tw_175 : (Cond.fieldLink RX6 32 "WrongWord$Gate" "guards" "I") ∈ lw_tbl := ch_1 _ (List.mem_of_getElem? (l := tables_1_1) (i := 109) rfl)
set_option maxRecDepth 100000 in
theorem tw_176 : (Cond.fieldLink RX3 44 "WrongWord$Gate" "guards" "I") ∈ lw_tbl := ch_1 _ (List.mem_of_getElem? (l := tables_1_1) (i := 110) rfl)
set_option maxRecDepth 100000 in
theorem tw_177 : (Cond.fieldLink RX7 327 "WrongWord$Gate" "guards" "I") ∈ lw_tbl := ch_1 _ (List.mem_of_getElem? (l := tables_1_1) (i := 111) rfl)
set_option maxRecDepth 100000 in
theorem tw_195 : (Cond.fieldLink RX6 9 "WrongWord$Tape" "bytes" "[I") ∈ lw_tbl := ch_1 _ (List.mem_of_getElem? (l := tables_1_1) (i := 129) rfl)
set_option maxRecDepth 100000 in
theorem tw_196 : (Cond.fieldLink RX6 18 "WrongWord$Tape" "draft" "LWrongWord$Gate;") ∈ lw_tbl := ch_1 _ (List.mem_of_getElem? (l := tables_1_1) (i := 130) rfl)
set_option maxRecDepth 100000 in
theorem tw_197 : (Cond.fieldLink RX7 120 "WrongWord$Tape" "draft" "LWrongWord$Gate;") ∈ lw_tbl := ch_1 _ (List.mem_of_getElem? (l := tables_1_1) (i := 131) rfl)
set_option maxRecDepth 100000 in
theorem tw_198 : (Cond.fieldLink RX6 22 "WrongWord$Tape" "length" "I") ∈ lw_tbl := ch_1 _ (List.mem_of_getElem? (l := tables_1_1) (i := 132) rfl)
set_option maxRecDepth 100000 in
theorem tw_199 : (Cond.fieldLink RX7 102 "WrongWord$Tape" "length" "I") ∈ lw_tbl := ch_1 _ (List.mem_of_getElem? (l := tables_1_1) (i := 133) rfl)
set_option maxRecDepth 100000 in
theorem tw_200 : (Cond.fieldLink RX7 110 "WrongWord$Tape" "fault" "I") ∈ lw_tbl := ch_1 _ (List.mem_of_getElem? (l := tables_1_1) (i := 134) rfl)
set_option maxRecDepth 100000 in
theorem tw_201 : (Cond.fieldLink RX6 105 "WrongWord$Tape" "fault" "I") ∈ lw_tbl := ch_1 _ (List.mem_of_getElem? (l := tables_1_1) (i := 135) rfl)
set_option maxRecDepth 100000 in
theorem tw_202 : (Cond.fieldLink RX7 117 "WrongWord$Tape" "place" "I") ∈ lw_tbl := ch_1 _ (List.mem_of_getElem? (l := tables_1_1) (i := 136) rfl)
set_option maxRecDepth 100000 in
theorem tw_203 : (Cond.fieldLink RX6 108 "WrongWord$Tape" "place" "I") ∈ lw_tbl := ch_1 _ (List.mem_of_getElem? (l := tables_1_1) (i := 137) rfl)
set_option maxRecDepth 100000 in
theorem tw_204 : (Cond.fieldLink RX6 26 "WrongWord$Tape" "at" "I") ∈ lw_tbl := ch_1 _ (List.mem_of_getElem? (l := tables_1_1) (i := 138) rfl)
set_option maxRecDepth 100000 in
theorem tw_205 : (Cond.fieldLink RX6 66 "WrongWord$Tape" "value" "I") ∈ lw_tbl := ch_1 _ (List.mem_of_getElem? (l := tables_1_1) (i := 139) rfl)
set_option maxRecDepth 100000 in
theorem tw_221 : (Cond.classLink RX7 22 RX2) ∈ lw_tbl := ch_1 _ (List.mem_of_getElem? (l := tables_1_1) (i := 155) rfl)
set_option maxRecDepth 100000 in
theorem tw_223 : (Cond.classLink RX7 29 RX0) ∈ lw_tbl := ch_1 _ (List.mem_of_getElem? (l := tables_1_1) (i := 157) rfl)
set_option maxRecDepth 100000 in
theorem tw_224 : (Cond.instantiable RX0 3) ∈ lw_tbl := ch_1 _ (List.mem_of_getElem? (l := tables_1_1) (i := 158) rfl)
set_option maxRecDepth 100000 in
theorem tw_225 : (Cond.methodLink RX7 31 yX0_init) ∈ lw_tbl := ch_1 _ (List.mem_of_getElem? (l := tables_1_1) (i := 159) rfl)
set_option maxRecDepth 100000 in
theorem tw_226 : (Cond.instanceMethod yX0_init) ∈ lw_tbl := ch_1 _ (List.mem_of_getElem? (l := tables_1_1) (i := 160) rfl)
set_option maxRecDepth 100000 in
theorem tw_227 : (Cond.code yX0_init cX0_init 2 none) ∈ lw_tbl := ch_1 _ (List.mem_of_getElem? (l := tables_1_1) (i := 161) rfl)
set_option maxRecDepth 100000 in
theorem tw_228 : (Cond.methodLink RX0 3 objectInit) ∈ lw_tbl := ch_1 _ (List.mem_of_getElem? (l := tables_1_1) (i := 162) rfl)
set_option maxRecDepth 100000 in
theorem tw_229 : (Cond.classLink RX0 9 RX4) ∈ lw_tbl := ch_1 _ (List.mem_of_getElem? (l := tables_1_1) (i := 163) rfl)
set_option maxRecDepth 100000 in
theorem tw_232 : (Cond.fieldLink RX0 11 "WrongWord$Acts" "ahead" "[LWrongWord$Moment;") ∈ lw_tbl := ch_1 _ (List.mem_of_getElem? (l := tables_1_1) (i := 166) rfl)
set_option maxRecDepth 100000 in
theorem tw_233 : (Cond.fieldLink RX0 22 "WrongWord$Acts" "at" "I") ∈ lw_tbl := ch_1 _ (List.mem_of_getElem? (l := tables_1_1) (i := 167) rfl)
set_option maxRecDepth 100000 in
theorem tw_234 : (Cond.fieldLink RX0 18 "WrongWord$Acts" "kept" "I") ∈ lw_tbl := ch_1 _ (List.mem_of_getElem? (l := tables_1_1) (i := 168) rfl)
set_option maxRecDepth 100000 in
theorem tw_235 : (Cond.fieldLink RX7 197 "WrongWord$Acts" "kept" "I") ∈ lw_tbl := ch_1 _ (List.mem_of_getElem? (l := tables_1_1) (i := 169) rfl)
set_option maxRecDepth 100000 in
theorem tw_244 : (Cond.classLink RX7 40 RX3) ∈ lw_tbl := ch_1 _ (List.mem_of_getElem? (l := tables_1_1) (i := 178) rfl)
set_option maxRecDepth 100000 in
theorem tw_245 : (Cond.instantiable RX3 2) ∈ lw_tbl := ch_1 _ (List.mem_of_getElem? (l := tables_1_1) (i := 179) rfl)
set_option maxRecDepth 100000 in
theorem tw_247 : (Cond.instanceMethod yX3_init) ∈ lw_tbl := ch_1 _ (List.mem_of_getElem? (l := tables_1_1) (i := 181) rfl)
set_option maxRecDepth 100000 in
theorem tw_248 : (Cond.code yX3_init cX3_init 1 none) ∈ lw_tbl := ch_1 _ (List.mem_of_getElem? (l := tables_1_1) (i := 182) rfl)
set_option maxRecDepth 100000 in
theorem tw_249 : (Cond.methodLink RX3 3 objectInit) ∈ lw_tbl := ch_1 _ (List.mem_of_getElem? (l := tables_1_1) (i := 183) rfl)
set_option maxRecDepth 100000 in
theorem tw_250 : (Cond.fieldLink RX3 9 "WrongWord$Guesses" "catching" "[I") ∈ lw_tbl := ch_1 _ (List.mem_of_getElem? (l := tables_1_1) (i := 184) rfl)
set_option maxRecDepth 100000 in
theorem tw_251 : (Cond.fieldLink RX3 15 "WrongWord$Guesses" "menFor" "[I") ∈ lw_tbl := ch_1 _ (List.mem_of_getElem? (l := tables_1_1) (i := 185) rfl)
set_option maxRecDepth 100000 in
theorem tw_257 : (Cond.classLink RX7 47 RX1) ∈ lw_tbl := ch_1 _ (List.mem_of_getElem? (l := tables_1_1) (i := 191) rfl)
set_option maxRecDepth 100000 in
theorem tw_258 : (Cond.instantiable RX1 6) ∈ lw_tbl := ch_1 _ (List.mem_of_getElem? (l := tables_1_1) (i := 192) rfl)
set_option maxRecDepth 100000 in
theorem tw_260 : (Cond.instanceMethod yX1_init) ∈ lw_tbl := ch_1 _ (List.mem_of_getElem? (l := tables_1_1) (i := 194) rfl)
set_option maxRecDepth 100000 in
theorem tw_261 : (Cond.code yX1_init cX1_init 1 none) ∈ lw_tbl := ch_1 _ (List.mem_of_getElem? (l := tables_1_1) (i := 195) rfl)
set_option maxRecDepth 100000 in
theorem tw_262 : (Cond.methodLink RX1 3 objectInit) ∈ lw_tbl := ch_1 _ (List.mem_of_getElem? (l := tables_1_1) (i := 196) rfl)
set_option maxRecDepth 100000 in
theorem tw_263 : (Cond.fieldLink RX1 11 "WrongWord$Asks" "bodies" "[I") ∈ lw_tbl := ch_1 _ (List.mem_of_getElem? (l := tables_1_1) (i := 197) rfl)
set_option maxRecDepth 100000 in
theorem tw_264 : (Cond.fieldLink RX7 320 "WrongWord$Asks" "bodies" "[I") ∈ lw_tbl := ch_1 _ (List.mem_of_getElem? (l := tables_1_1) (i := 198) rfl)
set_option maxRecDepth 100000 in
theorem tw_265 : (Cond.fieldLink RX1 31 "WrongWord$Asks" "begun" "I") ∈ lw_tbl := ch_1 _ (List.mem_of_getElem? (l := tables_1_1) (i := 199) rfl)
set_option maxRecDepth 100000 in
theorem tw_266 : (Cond.fieldLink RX7 317 "WrongWord$Asks" "begun" "I") ∈ lw_tbl := ch_1 _ (List.mem_of_getElem? (l := tables_1_1) (i := 200) rfl)
set_option maxRecDepth 100000 in
theorem tw_267 : (Cond.fieldLink RX1 18 "WrongWord$Asks" "number" "I") ∈ lw_tbl := ch_1 _ (List.mem_of_getElem? (l := tables_1_1) (i := 201) rfl)
set_option maxRecDepth 100000 in
theorem tw_268 : (Cond.fieldLink RX1 22 "WrongWord$Asks" "kind" "I") ∈ lw_tbl := ch_1 _ (List.mem_of_getElem? (l := tables_1_1) (i := 202) rfl)
set_option maxRecDepth 100000 in
theorem tw_269 : (Cond.fieldLink RX1 25 "WrongWord$Asks" "fee" "I") ∈ lw_tbl := ch_1 _ (List.mem_of_getElem? (l := tables_1_1) (i := 203) rfl)
set_option maxRecDepth 100000 in
theorem tw_270 : (Cond.fieldLink RX1 28 "WrongWord$Asks" "took" "I") ∈ lw_tbl := ch_1 _ (List.mem_of_getElem? (l := tables_1_1) (i := 204) rfl)
set_option maxRecDepth 100000 in
theorem tw_284 : (Cond.instantiable RX5 3) ∈ lw_tbl := ch_1 _ (List.mem_of_getElem? (l := tables_1_1) (i := 218) rfl)
set_option maxRecDepth 100000 in
theorem tw_286 : (Cond.instanceMethod yX5_init) ∈ lw_tbl := ch_1 _ (List.mem_of_getElem? (l := tables_1_1) (i := 220) rfl)
set_option maxRecDepth 100000 in
theorem tw_287 : (Cond.code yX5_init cX5_init 1 none) ∈ lw_tbl := ch_1 _ (List.mem_of_getElem? (l := tables_1_1) (i := 221) rfl)
set_option maxRecDepth 100000 in
theorem tw_288 : (Cond.methodLink RX5 3 objectInit) ∈ lw_tbl := ch_1 _ (List.mem_of_getElem? (l := tables_1_1) (i := 222) rfl)
set_option maxRecDepth 100000 in
theorem tw_289 : (Cond.fieldLink RX5 9 "WrongWord$Row" "items" "[I") ∈ lw_tbl := ch_1 _ (List.mem_of_getElem? (l := tables_1_1) (i := 223) rfl)
set_option maxRecDepth 100000 in
theorem tw_290 : (Cond.fieldLink RX7 86 "WrongWord$Row" "items" "[I") ∈ lw_tbl := ch_1 _ (List.mem_of_getElem? (l := tables_1_1) (i := 224) rfl)
set_option maxRecDepth 100000 in
theorem tw_291 : (Cond.fieldLink RX5 15 "WrongWord$Row" "lane" "I") ∈ lw_tbl := ch_1 _ (List.mem_of_getElem? (l := tables_1_1) (i := 225) rfl)
set_option maxRecDepth 100000 in
theorem tw_292 : (Cond.fieldLink RX7 78 "WrongWord$Row" "lane" "I") ∈ lw_tbl := ch_1 _ (List.mem_of_getElem? (l := tables_1_1) (i := 226) rfl)
set_option maxRecDepth 100000 in
theorem tw_293 : (Cond.fieldLink RX5 19 "WrongWord$Row" "size" "I") ∈ lw_tbl := ch_1 _ (List.mem_of_getElem? (l := tables_1_1) (i := 227) rfl)
set_option maxRecDepth 100000 in
theorem tw_294 : (Cond.fieldLink RX7 96 "WrongWord$Row" "size" "I") ∈ lw_tbl := ch_1 _ (List.mem_of_getElem? (l := tables_1_1) (i := 228) rfl)
set_option maxRecDepth 100000 in
theorem tw_302 : (Cond.fieldLink RX7 11 "WrongWord" "rows" "[LWrongWord$Row;") ∈ lw_tbl := ch_1 _ (List.mem_of_getElem? (l := tables_1_1) (i := 236) rfl)
set_option maxRecDepth 100000 in
theorem tw_303 : (Cond.fieldLink RX7 18 "WrongWord" "tape" "LWrongWord$Tape;") ∈ lw_tbl := ch_1 _ (List.mem_of_getElem? (l := tables_1_1) (i := 237) rfl)
set_option maxRecDepth 100000 in
theorem tw_304 : (Cond.fieldLink RX7 25 "WrongWord" "gate" "LWrongWord$Gate;") ∈ lw_tbl := ch_1 _ (List.mem_of_getElem? (l := tables_1_1) (i := 238) rfl)
set_option maxRecDepth 100000 in
theorem tw_305 : (Cond.fieldLink RX7 32 "WrongWord" "acts" "LWrongWord$Acts;") ∈ lw_tbl := ch_1 _ (List.mem_of_getElem? (l := tables_1_1) (i := 239) rfl)
set_option maxRecDepth 100000 in
theorem tw_306 : (Cond.fieldLink RX7 36 "WrongWord" "images" "[LWrongWord$Gate;") ∈ lw_tbl := ch_2 _ (List.mem_of_getElem? (l := tables_1_2) (i := 0) rfl)
set_option maxRecDepth 100000 in
theorem tw_307 : (Cond.fieldLink RX7 43 "WrongWord" "guesses" "LWrongWord$Guesses;") ∈ lw_tbl := ch_2 _ (List.mem_of_getElem? (l := tables_1_2) (i := 1) rfl)
set_option maxRecDepth 100000 in
theorem tw_308 : (Cond.fieldLink RX7 50 "WrongWord" "asks" "LWrongWord$Asks;") ∈ lw_tbl := ch_2 _ (List.mem_of_getElem? (l := tables_1_2) (i := 2) rfl)
set_option maxRecDepth 100000 in
theorem tw_309 : (Cond.fieldLink RX7 113 "WrongWord" "latestFault" "I") ∈ lw_tbl := ch_2 _ (List.mem_of_getElem? (l := tables_1_2) (i := 3) rfl)
set_option maxRecDepth 100000 in
theorem tw_310 : (Cond.fieldLink RX7 333 "WrongWord" "latestFinding" "I") ∈ lw_tbl := ch_2 _ (List.mem_of_getElem? (l := tables_1_2) (i := 4) rfl)
set_option maxRecDepth 100000 in
theorem tw_330 : (Cond.methodLink RL 13 yX7_row) ∈ lw_tbl := ch_2 _ (List.mem_of_getElem? (l := tables_1_2) (i := 24) rfl)
set_option maxRecDepth 100000 in
theorem tw_331 : (Cond.instanceMethod yX7_row) ∈ lw_tbl := ch_2 _ (List.mem_of_getElem? (l := tables_1_2) (i := 25) rfl)
set_option maxRecDepth 100000 in
theorem tw_332 : (Cond.selects RX7 yX7_row yX7_row) ∈ lw_tbl := ch_2 _ (List.mem_of_getElem? (l := tables_1_2) (i := 26) rfl)
set_option maxRecDepth 100000 in
theorem tw_333 : (Cond.code yX7_row cX7_row 4 (some .int)) ∈ lw_tbl := ch_2 _ (List.mem_of_getElem? (l := tables_1_2) (i := 27) rfl)
set_option maxRecDepth 100000 in
theorem tw_334 : (Cond.methodLink RX7 55 yX7_isRow) ∈ lw_tbl := ch_2 _ (List.mem_of_getElem? (l := tables_1_2) (i := 28) rfl)
set_option maxRecDepth 100000 in
theorem tw_336 : (Cond.instanceMethod yX7_isRow) ∈ lw_tbl := ch_2 _ (List.mem_of_getElem? (l := tables_1_2) (i := 30) rfl)
set_option maxRecDepth 100000 in
theorem tw_337 : (Cond.code yX7_isRow cX7_isRow 2 (some .boolean)) ∈ lw_tbl := ch_2 _ (List.mem_of_getElem? (l := tables_1_2) (i := 31) rfl)
set_option maxRecDepth 100000 in
theorem tw_338 : (Cond.constant RX7 59 (-1000001)) ∈ lw_tbl := ch_2 _ (List.mem_of_getElem? (l := tables_1_2) (i := 32) rfl)
set_option maxRecDepth 100000 in
theorem tw_339 : (Cond.methodLink RX7 60 yX7_found) ∈ lw_tbl := ch_2 _ (List.mem_of_getElem? (l := tables_1_2) (i := 33) rfl)
set_option maxRecDepth 100000 in
theorem tw_341 : (Cond.instanceMethod yX7_found) ∈ lw_tbl := ch_2 _ (List.mem_of_getElem? (l := tables_1_2) (i := 35) rfl)
set_option maxRecDepth 100000 in
theorem tw_342 : (Cond.code yX7_found cX7_found 2 (some .int)) ∈ lw_tbl := ch_2 _ (List.mem_of_getElem? (l := tables_1_2) (i := 36) rfl)
set_option maxRecDepth 100000 in
theorem tw_343 : (Cond.constant RX7 336 (-1000010)) ∈ lw_tbl := ch_2 _ (List.mem_of_getElem? (l := tables_1_2) (i := 37) rfl)
set_option maxRecDepth 100000 in
theorem tw_344 : (Cond.methodLink RX7 64 yX5_make) ∈ lw_tbl := ch_2 _ (List.mem_of_getElem? (l := tables_1_2) (i := 38) rfl)
set_option maxRecDepth 100000 in
theorem tw_345 : (Cond.instanceMethod yX5_make) ∈ lw_tbl := ch_2 _ (List.mem_of_getElem? (l := tables_1_2) (i := 39) rfl)
set_option maxRecDepth 100000 in
theorem tw_346 : (Cond.selects RX5 yX5_make yX5_make) ∈ lw_tbl := ch_2 _ (List.mem_of_getElem? (l := tables_1_2) (i := 40) rfl)
set_option maxRecDepth 100000 in
theorem tw_347 : (Cond.code yX5_make cX5_make 4 none) ∈ lw_tbl := ch_2 _ (List.mem_of_getElem? (l := tables_1_2) (i := 41) rfl)
set_option maxRecDepth 100000 in
theorem tw_348 : (Cond.methodLink RX7 68 yX7_unfound) ∈ lw_tbl := ch_2 _ (List.mem_of_getElem? (l := tables_1_2) (i := 42) rfl)
set_option maxRecDepth 100000 in
theorem tw_350 : (Cond.instanceMethod yX7_unfound) ∈ lw_tbl := ch_2 _ (List.mem_of_getElem? (l := tables_1_2) (i := 44) rfl)
set_option maxRecDepth 100000 in
theorem tw_351 : (Cond.code yX7_unfound cX7_unfound 2 (some .int)) ∈ lw_tbl := ch_2 _ (List.mem_of_getElem? (l := tables_1_2) (i := 45) rfl)
set_option maxRecDepth 100000 in
theorem tw_352 : (Cond.methodLink RL 18 yX7_set) ∈ lw_tbl := ch_2 _ (List.mem_of_getElem? (l := tables_1_2) (i := 46) rfl)
set_option maxRecDepth 100000 in
theorem tw_353 : (Cond.instanceMethod yX7_set) ∈ lw_tbl := ch_2 _ (List.mem_of_getElem? (l := tables_1_2) (i := 47) rfl)
set_option maxRecDepth 100000 in
theorem tw_354 : (Cond.selects RX7 yX7_set yX7_set) ∈ lw_tbl := ch_2 _ (List.mem_of_getElem? (l := tables_1_2) (i := 48) rfl)
set_option maxRecDepth 100000 in
theorem tw_355 : (Cond.code yX7_set cX7_set 5 (some .int)) ∈ lw_tbl := ch_2 _ (List.mem_of_getElem? (l := tables_1_2) (i := 49) rfl)
set_option maxRecDepth 100000 in
theorem tw_356 : (Cond.methodLink RX7 71 yX5_findingOf) ∈ lw_tbl := ch_2 _ (List.mem_of_getElem? (l := tables_1_2) (i := 50) rfl)
set_option maxRecDepth 100000 in
theorem tw_357 : (Cond.instanceMethod yX5_findingOf) ∈ lw_tbl := ch_2 _ (List.mem_of_getElem? (l := tables_1_2) (i := 51) rfl)
set_option maxRecDepth 100000 in
theorem tw_358 : (Cond.selects RX5 yX5_findingOf yX5_findingOf) ∈ lw_tbl := ch_2 _ (List.mem_of_getElem? (l := tables_1_2) (i := 52) rfl)
set_option maxRecDepth 100000 in
theorem tw_359 : (Cond.code yX5_findingOf cX5_findingOf 3 (some .int)) ∈ lw_tbl := ch_2 _ (List.mem_of_getElem? (l := tables_1_2) (i := 53) rfl)
set_option maxRecDepth 100000 in
theorem tw_360 : (Cond.methodLink RX5 22 yX5_reaches) ∈ lw_tbl := ch_2 _ (List.mem_of_getElem? (l := tables_1_2) (i := 54) rfl)
set_option maxRecDepth 100000 in
theorem tw_361 : (Cond.instanceMethod yX5_reaches) ∈ lw_tbl := ch_2 _ (List.mem_of_getElem? (l := tables_1_2) (i := 55) rfl)
set_option maxRecDepth 100000 in
theorem tw_362 : (Cond.selects RX5 yX5_reaches yX5_reaches) ∈ lw_tbl := ch_2 _ (List.mem_of_getElem? (l := tables_1_2) (i := 56) rfl)
set_option maxRecDepth 100000 in
theorem tw_363 : (Cond.code yX5_reaches cX5_reaches 3 (some .boolean)) ∈ lw_tbl := ch_2 _ (List.mem_of_getElem? (l := tables_1_2) (i := 57) rfl)
set_option maxRecDepth 100000 in
theorem tw_364 : (Cond.methodLink RX7 75 yX5_put) ∈ lw_tbl := ch_2 _ (List.mem_of_getElem? (l := tables_1_2) (i := 58) rfl)
set_option maxRecDepth 100000 in
theorem tw_365 : (Cond.instanceMethod yX5_put) ∈ lw_tbl := ch_2 _ (List.mem_of_getElem? (l := tables_1_2) (i := 59) rfl)
set_option maxRecDepth 100000 in
theorem tw_366 : (Cond.selects RX5 yX5_put yX5_put) ∈ lw_tbl := ch_2 _ (List.mem_of_getElem? (l := tables_1_2) (i := 60) rfl)
set_option maxRecDepth 100000 in
theorem tw_367 : (Cond.code yX5_put cX5_put 3 (some .int)) ∈ lw_tbl := ch_2 _ (List.mem_of_getElem? (l := tables_1_2) (i := 61) rfl)
set_option maxRecDepth 100000 in
theorem tw_368 : (Cond.methodLink RL 22 yX7_copy) ∈ lw_tbl := ch_2 _ (List.mem_of_getElem? (l := tables_1_2) (i := 62) rfl)
set_option maxRecDepth 100000 in
theorem tw_369 : (Cond.instanceMethod yX7_copy) ∈ lw_tbl := ch_2 _ (List.mem_of_getElem? (l := tables_1_2) (i := 63) rfl)
set_option maxRecDepth 100000 in
theorem tw_370 : (Cond.selects RX7 yX7_copy yX7_copy) ∈ lw_tbl := ch_2 _ (List.mem_of_getElem? (l := tables_1_2) (i := 64) rfl)
set_option maxRecDepth 100000 in
theorem tw_371 : (Cond.code yX7_copy cX7_copy 8 (some .int)) ∈ lw_tbl := ch_2 _ (List.mem_of_getElem? (l := tables_1_2) (i := 65) rfl)
set_option maxRecDepth 100000 in
theorem tw_372 : (Cond.methodLink RX7 82 yX5_reaches) ∈ lw_tbl := ch_2 _ (List.mem_of_getElem? (l := tables_1_2) (i := 66) rfl)
set_option maxRecDepth 100000 in
theorem tw_373 : (Cond.methodLink RX7 90 arraycopyName) ∈ lw_tbl := ch_2 _ (List.mem_of_getElem? (l := tables_1_2) (i := 67) rfl)
set_option maxRecDepth 100000 in
theorem tw_374 : (Cond.static arraycopyName) ∈ lw_tbl := ch_2 _ (List.mem_of_getElem? (l := tables_1_2) (i := 68) rfl)
set_option maxRecDepth 100000 in
theorem tw_375 : (Cond.native arraycopyName) ∈ lw_tbl := ch_2 _ (List.mem_of_getElem? (l := tables_1_2) (i := 69) rfl)
set_option maxRecDepth 100000 in
theorem tw_376 : (Cond.methodLink RL 27 yX7_drop) ∈ lw_tbl := ch_2 _ (List.mem_of_getElem? (l := tables_1_2) (i := 70) rfl)
set_option maxRecDepth 100000 in
theorem tw_377 : (Cond.instanceMethod yX7_drop) ∈ lw_tbl := ch_2 _ (List.mem_of_getElem? (l := tables_1_2) (i := 71) rfl)
set_option maxRecDepth 100000 in
theorem tw_378 : (Cond.selects RX7 yX7_drop yX7_drop) ∈ lw_tbl := ch_2 _ (List.mem_of_getElem? (l := tables_1_2) (i := 72) rfl)
set_option maxRecDepth 100000 in
theorem tw_379 : (Cond.code yX7_drop cX7_drop 2 (some .int)) ∈ lw_tbl := ch_2 _ (List.mem_of_getElem? (l := tables_1_2) (i := 73) rfl)
set_option maxRecDepth 100000 in
theorem tw_380 : (Cond.methodLink RL 32 yX7_feed) ∈ lw_tbl := ch_2 _ (List.mem_of_getElem? (l := tables_1_2) (i := 74) rfl)
set_option maxRecDepth 100000 in
theorem tw_381 : (Cond.instanceMethod yX7_feed) ∈ lw_tbl := ch_2 _ (List.mem_of_getElem? (l := tables_1_2) (i := 75) rfl)
set_option maxRecDepth 100000 in
theorem tw_382 : (Cond.selects RX7 yX7_feed yX7_feed) ∈ lw_tbl := ch_2 _ (List.mem_of_getElem? (l := tables_1_2) (i := 76) rfl)
set_option maxRecDepth 100000 in
theorem tw_383 : (Cond.code yX7_feed cX7_feed 2 (some .int)) ∈ lw_tbl := ch_2 _ (List.mem_of_getElem? (l := tables_1_2) (i := 77) rfl)
set_option maxRecDepth 100000 in
theorem tw_384 : (Cond.methodLink RX7 99 yX6_append) ∈ lw_tbl := ch_2 _ (List.mem_of_getElem? (l := tables_1_2) (i := 78) rfl)
set_option maxRecDepth 100000 in
theorem tw_385 : (Cond.instanceMethod yX6_append) ∈ lw_tbl := ch_2 _ (List.mem_of_getElem? (l := tables_1_2) (i := 79) rfl)
set_option maxRecDepth 100000 in
theorem tw_386 : (Cond.selects RX6 yX6_append yX6_append) ∈ lw_tbl := ch_2 _ (List.mem_of_getElem? (l := tables_1_2) (i := 80) rfl)
set_option maxRecDepth 100000 in
theorem tw_387 : (Cond.code yX6_append cX6_append 2 (some .boolean)) ∈ lw_tbl := ch_2 _ (List.mem_of_getElem? (l := tables_1_2) (i := 81) rfl)
set_option maxRecDepth 100000 in
theorem tw_388 : (Cond.constant RX7 105 (-1000003)) ∈ lw_tbl := ch_2 _ (List.mem_of_getElem? (l := tables_1_2) (i := 82) rfl)
set_option maxRecDepth 100000 in
theorem tw_389 : (Cond.methodLink RL 36 yX7_gate) ∈ lw_tbl := ch_2 _ (List.mem_of_getElem? (l := tables_1_2) (i := 83) rfl)
set_option maxRecDepth 100000 in
theorem tw_390 : (Cond.instanceMethod yX7_gate) ∈ lw_tbl := ch_2 _ (List.mem_of_getElem? (l := tables_1_2) (i := 84) rfl)
set_option maxRecDepth 100000 in
theorem tw_391 : (Cond.selects RX7 yX7_gate yX7_gate) ∈ lw_tbl := ch_2 _ (List.mem_of_getElem? (l := tables_1_2) (i := 85) rfl)
set_option maxRecDepth 100000 in
theorem tw_392 : (Cond.code yX7_gate cX7_gate 2 (some .int)) ∈ lw_tbl := ch_2 _ (List.mem_of_getElem? (l := tables_1_2) (i := 86) rfl)
set_option maxRecDepth 100000 in
theorem tw_393 : (Cond.methodLink RX7 106 yX6_read) ∈ lw_tbl := ch_2 _ (List.mem_of_getElem? (l := tables_1_2) (i := 87) rfl)
set_option maxRecDepth 100000 in
theorem tw_394 : (Cond.instanceMethod yX6_read) ∈ lw_tbl := ch_2 _ (List.mem_of_getElem? (l := tables_1_2) (i := 88) rfl)
set_option maxRecDepth 100000 in
theorem tw_395 : (Cond.selects RX6 yX6_read yX6_read) ∈ lw_tbl := ch_2 _ (List.mem_of_getElem? (l := tables_1_2) (i := 89) rfl)
set_option maxRecDepth 100000 in
theorem tw_396 : (Cond.code yX6_read cX6_read 2 (some .boolean)) ∈ lw_tbl := ch_2 _ (List.mem_of_getElem? (l := tables_1_2) (i := 90) rfl)
set_option maxRecDepth 100000 in
theorem tw_397 : (Cond.methodLink RX6 35 yX6_readLaw) ∈ lw_tbl := ch_2 _ (List.mem_of_getElem? (l := tables_1_2) (i := 91) rfl)
set_option maxRecDepth 100000 in
theorem tw_399 : (Cond.instanceMethod yX6_readLaw) ∈ lw_tbl := ch_2 _ (List.mem_of_getElem? (l := tables_1_2) (i := 93) rfl)
set_option maxRecDepth 100000 in
theorem tw_400 : (Cond.code yX6_readLaw cX6_readLaw 1 (some .boolean)) ∈ lw_tbl := ch_2 _ (List.mem_of_getElem? (l := tables_1_2) (i := 94) rfl)
set_option maxRecDepth 100000 in
theorem tw_401 : (Cond.methodLink RX6 59 yX6_readSign) ∈ lw_tbl := ch_2 _ (List.mem_of_getElem? (l := tables_1_2) (i := 95) rfl)
set_option maxRecDepth 100000 in
theorem tw_403 : (Cond.instanceMethod yX6_readSign) ∈ lw_tbl := ch_2 _ (List.mem_of_getElem? (l := tables_1_2) (i := 97) rfl)
set_option maxRecDepth 100000 in
theorem tw_404 : (Cond.code yX6_readSign cX6_readSign 2 (some .boolean)) ∈ lw_tbl := ch_2 _ (List.mem_of_getElem? (l := tables_1_2) (i := 98) rfl)
set_option maxRecDepth 100000 in
theorem tw_405 : (Cond.methodLink RX6 42 yX6_here) ∈ lw_tbl := ch_2 _ (List.mem_of_getElem? (l := tables_1_2) (i := 99) rfl)
set_option maxRecDepth 100000 in
theorem tw_407 : (Cond.instanceMethod yX6_here) ∈ lw_tbl := ch_2 _ (List.mem_of_getElem? (l := tables_1_2) (i := 101) rfl)
set_option maxRecDepth 100000 in
theorem tw_408 : (Cond.code yX6_here cX6_here 1 (some .int)) ∈ lw_tbl := ch_2 _ (List.mem_of_getElem? (l := tables_1_2) (i := 102) rfl)
set_option maxRecDepth 100000 in
theorem tw_409 : (Cond.methodLink RX6 78 yX6_faulty) ∈ lw_tbl := ch_2 _ (List.mem_of_getElem? (l := tables_1_2) (i := 103) rfl)
set_option maxRecDepth 100000 in
theorem tw_411 : (Cond.instanceMethod yX6_faulty) ∈ lw_tbl := ch_2 _ (List.mem_of_getElem? (l := tables_1_2) (i := 105) rfl)
set_option maxRecDepth 100000 in
theorem tw_412 : (Cond.code yX6_faulty cX6_faulty 2 (some .boolean)) ∈ lw_tbl := ch_2 _ (List.mem_of_getElem? (l := tables_1_2) (i := 106) rfl)
set_option maxRecDepth 100000 in
theorem tw_413 : (Cond.methodLink RX6 63 yX6_readNumber) ∈ lw_tbl := ch_2 _ (List.mem_of_getElem? (l := tables_1_2) (i := 107) rfl)
set_option maxRecDepth 100000 in
theorem tw_415 : (Cond.instanceMethod yX6_readNumber) ∈ lw_tbl := ch_2 _ (List.mem_of_getElem? (l := tables_1_2) (i := 109) rfl)
set_option maxRecDepth 100000 in
theorem tw_416 : (Cond.code yX6_readNumber cX6_readNumber 4 (some .boolean)) ∈ lw_tbl := ch_2 _ (List.mem_of_getElem? (l := tables_1_2) (i := 110) rfl)
set_option maxRecDepth 100000 in
theorem tw_417 : (Cond.methodLink RX6 102 yX6_isFigure) ∈ lw_tbl := ch_2 _ (List.mem_of_getElem? (l := tables_1_2) (i := 111) rfl)
set_option maxRecDepth 100000 in
theorem tw_418 : (Cond.static yX6_isFigure) ∈ lw_tbl := ch_2 _ (List.mem_of_getElem? (l := tables_1_2) (i := 112) rfl)
set_option maxRecDepth 100000 in
theorem tw_419 : (Cond.code yX6_isFigure cX6_isFigure 1 (some .boolean)) ∈ lw_tbl := ch_2 _ (List.mem_of_getElem? (l := tables_1_2) (i := 113) rfl)
set_option maxRecDepth 100000 in
theorem tw_420 : (Cond.methodLink RX6 39 yX6_readWord) ∈ lw_tbl := ch_2 _ (List.mem_of_getElem? (l := tables_1_2) (i := 114) rfl)
set_option maxRecDepth 100000 in
theorem tw_422 : (Cond.instanceMethod yX6_readWord) ∈ lw_tbl := ch_2 _ (List.mem_of_getElem? (l := tables_1_2) (i := 116) rfl)
set_option maxRecDepth 100000 in
theorem tw_423 : (Cond.code yX6_readWord cX6_readWord 3 (some .boolean)) ∈ lw_tbl := ch_2 _ (List.mem_of_getElem? (l := tables_1_2) (i := 117) rfl)
set_option maxRecDepth 100000 in
theorem tw_424 : (Cond.methodLink RX6 84 yX6_wasTold) ∈ lw_tbl := ch_2 _ (List.mem_of_getElem? (l := tables_1_2) (i := 118) rfl)
set_option maxRecDepth 100000 in
theorem tw_426 : (Cond.instanceMethod yX6_wasTold) ∈ lw_tbl := ch_2 _ (List.mem_of_getElem? (l := tables_1_2) (i := 120) rfl)
set_option maxRecDepth 100000 in
theorem tw_427 : (Cond.code yX6_wasTold cX6_wasTold 3 (some .boolean)) ∈ lw_tbl := ch_2 _ (List.mem_of_getElem? (l := tables_1_2) (i := 121) rfl)
set_option maxRecDepth 100000 in
theorem tw_428 : (Cond.methodLink RX6 87 yX2_distance) ∈ lw_tbl := ch_2 _ (List.mem_of_getElem? (l := tables_1_2) (i := 122) rfl)
set_option maxRecDepth 100000 in
theorem tw_429 : (Cond.instanceMethod yX2_distance) ∈ lw_tbl := ch_2 _ (List.mem_of_getElem? (l := tables_1_2) (i := 123) rfl)
set_option maxRecDepth 100000 in
theorem tw_430 : (Cond.selects RX2 yX2_distance yX2_distance) ∈ lw_tbl := ch_2 _ (List.mem_of_getElem? (l := tables_1_2) (i := 124) rfl)
set_option maxRecDepth 100000 in
theorem tw_431 : (Cond.code yX2_distance cX2_distance 5 (some .int)) ∈ lw_tbl := ch_2 _ (List.mem_of_getElem? (l := tables_1_2) (i := 125) rfl)
set_option maxRecDepth 100000 in
theorem tw_432 : (Cond.methodLink RX6 46 yX6_readGuard) ∈ lw_tbl := ch_2 _ (List.mem_of_getElem? (l := tables_1_2) (i := 126) rfl)
set_option maxRecDepth 100000 in
theorem tw_434 : (Cond.instanceMethod yX6_readGuard) ∈ lw_tbl := ch_2 _ (List.mem_of_getElem? (l := tables_1_2) (i := 128) rfl)
set_option maxRecDepth 100000 in
theorem tw_435 : (Cond.code yX6_readGuard cX6_readGuard 2 (some .boolean)) ∈ lw_tbl := ch_2 _ (List.mem_of_getElem? (l := tables_1_2) (i := 129) rfl)
set_option maxRecDepth 100000 in
theorem tw_436 : (Cond.methodLink RX6 91 yX6_kindOf) ∈ lw_tbl := ch_2 _ (List.mem_of_getElem? (l := tables_1_2) (i := 130) rfl)
set_option maxRecDepth 100000 in
theorem tw_437 : (Cond.static yX6_kindOf) ∈ lw_tbl := ch_2 _ (List.mem_of_getElem? (l := tables_1_2) (i := 131) rfl)
set_option maxRecDepth 100000 in
theorem tw_438 : (Cond.code yX6_kindOf cX6_kindOf 1 (some .int)) ∈ lw_tbl := ch_2 _ (List.mem_of_getElem? (l := tables_1_2) (i := 132) rfl)
set_option maxRecDepth 100000 in
theorem tw_439 : (Cond.constant RX6 95 (-1000000)) ∈ lw_tbl := ch_2 _ (List.mem_of_getElem? (l := tables_1_2) (i := 133) rfl)
set_option maxRecDepth 100000 in
theorem tw_440 : (Cond.methodLink RX6 53 yX4_begin) ∈ lw_tbl := ch_2 _ (List.mem_of_getElem? (l := tables_1_2) (i := 134) rfl)
set_option maxRecDepth 100000 in
theorem tw_441 : (Cond.instanceMethod yX4_begin) ∈ lw_tbl := ch_2 _ (List.mem_of_getElem? (l := tables_1_2) (i := 135) rfl)
set_option maxRecDepth 100000 in
theorem tw_442 : (Cond.selects RX4 yX4_begin yX4_begin) ∈ lw_tbl := ch_2 _ (List.mem_of_getElem? (l := tables_1_2) (i := 136) rfl)
set_option maxRecDepth 100000 in
theorem tw_443 : (Cond.code yX4_begin cX4_begin 3 none) ∈ lw_tbl := ch_2 _ (List.mem_of_getElem? (l := tables_1_2) (i := 137) rfl)
set_option maxRecDepth 100000 in
theorem tw_444 : (Cond.constant RX7 116 (-1000100)) ∈ lw_tbl := ch_2 _ (List.mem_of_getElem? (l := tables_1_2) (i := 138) rfl)
set_option maxRecDepth 100000 in
theorem tw_445 : (Cond.methodLink RX7 123 yX2_become) ∈ lw_tbl := ch_2 _ (List.mem_of_getElem? (l := tables_1_2) (i := 139) rfl)
set_option maxRecDepth 100000 in
theorem tw_446 : (Cond.instanceMethod yX2_become) ∈ lw_tbl := ch_2 _ (List.mem_of_getElem? (l := tables_1_2) (i := 140) rfl)
set_option maxRecDepth 100000 in
theorem tw_447 : (Cond.selects RX2 yX2_become yX2_become) ∈ lw_tbl := ch_2 _ (List.mem_of_getElem? (l := tables_1_2) (i := 141) rfl)
set_option maxRecDepth 100000 in
theorem tw_448 : (Cond.code yX2_become cX2_become 2 none) ∈ lw_tbl := ch_2 _ (List.mem_of_getElem? (l := tables_1_2) (i := 142) rfl)
set_option maxRecDepth 100000 in
theorem tw_449 : (Cond.methodLink RX2 28 arraycopyName) ∈ lw_tbl := ch_2 _ (List.mem_of_getElem? (l := tables_1_2) (i := 143) rfl)
set_option maxRecDepth 100000 in
theorem tw_450 : (Cond.methodLink RX2 34 yX4_become) ∈ lw_tbl := ch_2 _ (List.mem_of_getElem? (l := tables_1_2) (i := 144) rfl)
set_option maxRecDepth 100000 in
theorem tw_451 : (Cond.instanceMethod yX4_become) ∈ lw_tbl := ch_2 _ (List.mem_of_getElem? (l := tables_1_2) (i := 145) rfl)
set_option maxRecDepth 100000 in
theorem tw_452 : (Cond.selects RX4 yX4_become yX4_become) ∈ lw_tbl := ch_2 _ (List.mem_of_getElem? (l := tables_1_2) (i := 146) rfl)
set_option maxRecDepth 100000 in
theorem tw_453 : (Cond.code yX4_become cX4_become 2 none) ∈ lw_tbl := ch_2 _ (List.mem_of_getElem? (l := tables_1_2) (i := 147) rfl)
set_option maxRecDepth 100000 in
theorem tw_454 : (Cond.methodLink RX4 37 arraycopyName) ∈ lw_tbl := ch_2 _ (List.mem_of_getElem? (l := tables_1_2) (i := 148) rfl)
set_option maxRecDepth 100000 in
theorem tw_455 : (Cond.methodLink RX7 127 yX0_forget) ∈ lw_tbl := ch_2 _ (List.mem_of_getElem? (l := tables_1_2) (i := 149) rfl)
set_option maxRecDepth 100000 in
theorem tw_456 : (Cond.instanceMethod yX0_forget) ∈ lw_tbl := ch_2 _ (List.mem_of_getElem? (l := tables_1_2) (i := 150) rfl)
set_option maxRecDepth 100000 in
theorem tw_457 : (Cond.selects RX0 yX0_forget yX0_forget) ∈ lw_tbl := ch_2 _ (List.mem_of_getElem? (l := tables_1_2) (i := 151) rfl)
set_option maxRecDepth 100000 in
theorem tw_458 : (Cond.code yX0_forget cX0_forget 1 none) ∈ lw_tbl := ch_2 _ (List.mem_of_getElem? (l := tables_1_2) (i := 152) rfl)
set_option maxRecDepth 100000 in
theorem tw_459 : (Cond.methodLink RL 41 yX7_fault) ∈ lw_tbl := ch_2 _ (List.mem_of_getElem? (l := tables_1_2) (i := 153) rfl)
set_option maxRecDepth 100000 in
theorem tw_460 : (Cond.instanceMethod yX7_fault) ∈ lw_tbl := ch_2 _ (List.mem_of_getElem? (l := tables_1_2) (i := 154) rfl)
set_option maxRecDepth 100000 in
theorem tw_461 : (Cond.selects RX7 yX7_fault yX7_fault) ∈ lw_tbl := ch_2 _ (List.mem_of_getElem? (l := tables_1_2) (i := 155) rfl)
set_option maxRecDepth 100000 in
theorem tw_462 : (Cond.code yX7_fault cX7_fault 1 (some .int)) ∈ lw_tbl := ch_2 _ (List.mem_of_getElem? (l := tables_1_2) (i := 156) rfl)
set_option maxRecDepth 100000 in
theorem tw_463 : (Cond.methodLink RL 45 yX7_nights) ∈ lw_tbl := ch_2 _ (List.mem_of_getElem? (l := tables_1_2) (i := 157) rfl)
set_option maxRecDepth 100000 in
theorem tw_464 : (Cond.instanceMethod yX7_nights) ∈ lw_tbl := ch_2 _ (List.mem_of_getElem? (l := tables_1_2) (i := 158) rfl)
set_option maxRecDepth 100000 in
theorem tw_465 : (Cond.selects RX7 yX7_nights yX7_nights) ∈ lw_tbl := ch_2 _ (List.mem_of_getElem? (l := tables_1_2) (i := 159) rfl)
set_option maxRecDepth 100000 in
theorem tw_466 : (Cond.code yX7_nights cX7_nights 3 (some .int)) ∈ lw_tbl := ch_2 _ (List.mem_of_getElem? (l := tables_1_2) (i := 160) rfl)
set_option maxRecDepth 100000 in
theorem tw_467 : (Cond.methodLink RX7 133 yX7_noGate) ∈ lw_tbl := ch_2 _ (List.mem_of_getElem? (l := tables_1_2) (i := 161) rfl)
set_option maxRecDepth 100000 in
theorem tw_469 : (Cond.instanceMethod yX7_noGate) ∈ lw_tbl := ch_2 _ (List.mem_of_getElem? (l := tables_1_2) (i := 163) rfl)
set_option maxRecDepth 100000 in
theorem tw_470 : (Cond.code yX7_noGate cX7_noGate 1 (some .boolean)) ∈ lw_tbl := ch_2 _ (List.mem_of_getElem? (l := tables_1_2) (i := 164) rfl)
set_option maxRecDepth 100000 in
theorem tw_471 : (Cond.constant RX7 136 (-1000002)) ∈ lw_tbl := ch_2 _ (List.mem_of_getElem? (l := tables_1_2) (i := 165) rfl)
set_option maxRecDepth 100000 in
theorem tw_472 : (Cond.methodLink RX7 146 yX0_keep) ∈ lw_tbl := ch_2 _ (List.mem_of_getElem? (l := tables_1_2) (i := 166) rfl)
set_option maxRecDepth 100000 in
theorem tw_473 : (Cond.instanceMethod yX0_keep) ∈ lw_tbl := ch_2 _ (List.mem_of_getElem? (l := tables_1_2) (i := 167) rfl)
set_option maxRecDepth 100000 in
theorem tw_474 : (Cond.selects RX0 yX0_keep yX0_keep) ∈ lw_tbl := ch_2 _ (List.mem_of_getElem? (l := tables_1_2) (i := 168) rfl)
set_option maxRecDepth 100000 in
theorem tw_475 : (Cond.code yX0_keep cX0_keep 2 none) ∈ lw_tbl := ch_2 _ (List.mem_of_getElem? (l := tables_1_2) (i := 169) rfl)
set_option maxRecDepth 100000 in
theorem tw_476 : (Cond.methodLink RX0 25 yX4_become) ∈ lw_tbl := ch_2 _ (List.mem_of_getElem? (l := tables_1_2) (i := 170) rfl)
set_option maxRecDepth 100000 in
theorem tw_477 : (Cond.methodLink RX0 29 Lib.Math.min.name) ∈ lw_tbl := ch_2 _ (List.mem_of_getElem? (l := tables_1_2) (i := 171) rfl)
set_option maxRecDepth 100000 in
theorem tw_478 : (Cond.static Lib.Math.min.name) ∈ lw_tbl := ch_2 _ (List.mem_of_getElem? (l := tables_1_2) (i := 172) rfl)
set_option maxRecDepth 100000 in
theorem tw_479 : (Cond.code Lib.Math.min.name Lib.Math.min.code 2 (some .int)) ∈ lw_tbl := ch_2 _ (List.mem_of_getElem? (l := tables_1_2) (i := 173) rfl)
set_option maxRecDepth 100000 in
theorem tw_480 : (Cond.methodLink RX7 150 yX4_goBy) ∈ lw_tbl := ch_2 _ (List.mem_of_getElem? (l := tables_1_2) (i := 174) rfl)
set_option maxRecDepth 100000 in
theorem tw_481 : (Cond.instanceMethod yX4_goBy) ∈ lw_tbl := ch_2 _ (List.mem_of_getElem? (l := tables_1_2) (i := 175) rfl)
set_option maxRecDepth 100000 in
theorem tw_482 : (Cond.selects RX4 yX4_goBy yX4_goBy) ∈ lw_tbl := ch_2 _ (List.mem_of_getElem? (l := tables_1_2) (i := 176) rfl)
set_option maxRecDepth 100000 in
theorem tw_483 : (Cond.code yX4_goBy cX4_goBy 1 none) ∈ lw_tbl := ch_2 _ (List.mem_of_getElem? (l := tables_1_2) (i := 177) rfl)
set_option maxRecDepth 100000 in
theorem tw_484 : (Cond.methodLink RX7 153 yX2_secretIn) ∈ lw_tbl := ch_2 _ (List.mem_of_getElem? (l := tables_1_2) (i := 178) rfl)
set_option maxRecDepth 100000 in
theorem tw_485 : (Cond.instanceMethod yX2_secretIn) ∈ lw_tbl := ch_2 _ (List.mem_of_getElem? (l := tables_1_2) (i := 179) rfl)
set_option maxRecDepth 100000 in
theorem tw_486 : (Cond.selects RX2 yX2_secretIn yX2_secretIn) ∈ lw_tbl := ch_2 _ (List.mem_of_getElem? (l := tables_1_2) (i := 180) rfl)
set_option maxRecDepth 100000 in
theorem tw_487 : (Cond.code yX2_secretIn cX2_secretIn 2 (some .int)) ∈ lw_tbl := ch_2 _ (List.mem_of_getElem? (l := tables_1_2) (i := 181) rfl)
set_option maxRecDepth 100000 in
theorem tw_488 : (Cond.methodLink RX2 61 yX2_secretBy) ∈ lw_tbl := ch_2 _ (List.mem_of_getElem? (l := tables_1_2) (i := 182) rfl)
set_option maxRecDepth 100000 in
theorem tw_489 : (Cond.instanceMethod yX2_secretBy) ∈ lw_tbl := ch_2 _ (List.mem_of_getElem? (l := tables_1_2) (i := 183) rfl)
set_option maxRecDepth 100000 in
theorem tw_490 : (Cond.selects RX2 yX2_secretBy yX2_secretBy) ∈ lw_tbl := ch_2 _ (List.mem_of_getElem? (l := tables_1_2) (i := 184) rfl)
set_option maxRecDepth 100000 in
theorem tw_491 : (Cond.code yX2_secretBy cX2_secretBy 5 (some .int)) ∈ lw_tbl := ch_2 _ (List.mem_of_getElem? (l := tables_1_2) (i := 185) rfl)
set_option maxRecDepth 100000 in
theorem tw_493 : (Cond.static yX7_rest) ∈ lw_tbl := ch_2 _ (List.mem_of_getElem? (l := tables_1_2) (i := 187) rfl)
set_option maxRecDepth 100000 in
theorem tw_494 : (Cond.code yX7_rest cX7_rest 2 (some .int)) ∈ lw_tbl := ch_2 _ (List.mem_of_getElem? (l := tables_1_2) (i := 188) rfl)
set_option maxRecDepth 100000 in
theorem tw_495 : (Cond.methodLink RL 49 yX7_say) ∈ lw_tbl := ch_2 _ (List.mem_of_getElem? (l := tables_1_2) (i := 189) rfl)
set_option maxRecDepth 100000 in
theorem tw_496 : (Cond.instanceMethod yX7_say) ∈ lw_tbl := ch_2 _ (List.mem_of_getElem? (l := tables_1_2) (i := 190) rfl)
set_option maxRecDepth 100000 in
theorem tw_497 : (Cond.selects RX7 yX7_say yX7_say) ∈ lw_tbl := ch_2 _ (List.mem_of_getElem? (l := tables_1_2) (i := 191) rfl)
set_option maxRecDepth 100000 in
theorem tw_498 : (Cond.code yX7_say cX7_say 5 (some .int)) ∈ lw_tbl := ch_2 _ (List.mem_of_getElem? (l := tables_1_2) (i := 192) rfl)
set_option maxRecDepth 100000 in
theorem tw_499 : (Cond.methodLink RX7 156 yX7_isWord) ∈ lw_tbl := ch_2 _ (List.mem_of_getElem? (l := tables_1_2) (i := 193) rfl)
set_option maxRecDepth 100000 in
theorem tw_501 : (Cond.instanceMethod yX7_isWord) ∈ lw_tbl := ch_2 _ (List.mem_of_getElem? (l := tables_1_2) (i := 195) rfl)
set_option maxRecDepth 100000 in
theorem tw_502 : (Cond.code yX7_isWord cX7_isWord 2 (some .boolean)) ∈ lw_tbl := ch_2 _ (List.mem_of_getElem? (l := tables_1_2) (i := 196) rfl)
set_option maxRecDepth 100000 in
theorem tw_503 : (Cond.methodLink RX7 159 yX7_isHour) ∈ lw_tbl := ch_2 _ (List.mem_of_getElem? (l := tables_1_2) (i := 197) rfl)
set_option maxRecDepth 100000 in
theorem tw_505 : (Cond.instanceMethod yX7_isHour) ∈ lw_tbl := ch_2 _ (List.mem_of_getElem? (l := tables_1_2) (i := 199) rfl)
set_option maxRecDepth 100000 in
theorem tw_506 : (Cond.code yX7_isHour cX7_isHour 2 (some .boolean)) ∈ lw_tbl := ch_2 _ (List.mem_of_getElem? (l := tables_1_2) (i := 200) rfl)
set_option maxRecDepth 100000 in
theorem tw_507 : (Cond.methodLink RX7 165 yX2_guardOn) ∈ lw_tbl := ch_2 _ (List.mem_of_getElem? (l := tables_1_2) (i := 201) rfl)
set_option maxRecDepth 100000 in
theorem tw_508 : (Cond.instanceMethod yX2_guardOn) ∈ lw_tbl := ch_2 _ (List.mem_of_getElem? (l := tables_1_2) (i := 202) rfl)
set_option maxRecDepth 100000 in
theorem tw_509 : (Cond.selects RX2 yX2_guardOn yX2_guardOn) ∈ lw_tbl := ch_2 _ (List.mem_of_getElem? (l := tables_1_2) (i := 203) rfl)
set_option maxRecDepth 100000 in
theorem tw_510 : (Cond.code yX2_guardOn cX2_guardOn 3 (some .int)) ∈ lw_tbl := ch_2 _ (List.mem_of_getElem? (l := tables_1_2) (i := 204) rfl)
set_option maxRecDepth 100000 in
theorem tw_511 : (Cond.methodLink RX7 168 yX2_catches) ∈ lw_tbl := ch_2 _ (List.mem_of_getElem? (l := tables_1_2) (i := 205) rfl)
set_option maxRecDepth 100000 in
theorem tw_512 : (Cond.instanceMethod yX2_catches) ∈ lw_tbl := ch_2 _ (List.mem_of_getElem? (l := tables_1_2) (i := 206) rfl)
set_option maxRecDepth 100000 in
theorem tw_513 : (Cond.selects RX2 yX2_catches yX2_catches) ∈ lw_tbl := ch_2 _ (List.mem_of_getElem? (l := tables_1_2) (i := 207) rfl)
set_option maxRecDepth 100000 in
theorem tw_514 : (Cond.code yX2_catches cX2_catches 4 (some .boolean)) ∈ lw_tbl := ch_2 _ (List.mem_of_getElem? (l := tables_1_2) (i := 208) rfl)
set_option maxRecDepth 100000 in
theorem tw_515 : (Cond.methodLink RX2 85 yX2_secretIn) ∈ lw_tbl := ch_2 _ (List.mem_of_getElem? (l := tables_1_2) (i := 209) rfl)
set_option maxRecDepth 100000 in
theorem tw_516 : (Cond.methodLink RX2 89 yX2_catchesIf) ∈ lw_tbl := ch_2 _ (List.mem_of_getElem? (l := tables_1_2) (i := 210) rfl)
set_option maxRecDepth 100000 in
theorem tw_517 : (Cond.instanceMethod yX2_catchesIf) ∈ lw_tbl := ch_2 _ (List.mem_of_getElem? (l := tables_1_2) (i := 211) rfl)
set_option maxRecDepth 100000 in
theorem tw_518 : (Cond.selects RX2 yX2_catchesIf yX2_catchesIf) ∈ lw_tbl := ch_2 _ (List.mem_of_getElem? (l := tables_1_2) (i := 212) rfl)
set_option maxRecDepth 100000 in
theorem tw_519 : (Cond.code yX2_catchesIf cX2_catchesIf 6 (some .boolean)) ∈ lw_tbl := ch_2 _ (List.mem_of_getElem? (l := tables_1_2) (i := 213) rfl)
set_option maxRecDepth 100000 in
theorem tw_520 : (Cond.methodLink RX2 74 yX2_guardOn) ∈ lw_tbl := ch_2 _ (List.mem_of_getElem? (l := tables_1_2) (i := 214) rfl)
set_option maxRecDepth 100000 in
theorem tw_521 : (Cond.methodLink RX2 77 yX2_isThere) ∈ lw_tbl := ch_2 _ (List.mem_of_getElem? (l := tables_1_2) (i := 215) rfl)
set_option maxRecDepth 100000 in
theorem tw_522 : (Cond.instanceMethod yX2_isThere) ∈ lw_tbl := ch_2 _ (List.mem_of_getElem? (l := tables_1_2) (i := 216) rfl)
set_option maxRecDepth 100000 in
theorem tw_523 : (Cond.selects RX2 yX2_isThere yX2_isThere) ∈ lw_tbl := ch_2 _ (List.mem_of_getElem? (l := tables_1_2) (i := 217) rfl)
set_option maxRecDepth 100000 in
theorem tw_524 : (Cond.code yX2_isThere cX2_isThere 2 (some .boolean)) ∈ lw_tbl := ch_2 _ (List.mem_of_getElem? (l := tables_1_2) (i := 218) rfl)
set_option maxRecDepth 100000 in
theorem tw_525 : (Cond.methodLink RX2 81 yX2_wouldTake) ∈ lw_tbl := ch_2 _ (List.mem_of_getElem? (l := tables_1_2) (i := 219) rfl)
set_option maxRecDepth 100000 in
theorem tw_526 : (Cond.instanceMethod yX2_wouldTake) ∈ lw_tbl := ch_2 _ (List.mem_of_getElem? (l := tables_1_2) (i := 220) rfl)
set_option maxRecDepth 100000 in
theorem tw_527 : (Cond.selects RX2 yX2_wouldTake yX2_wouldTake) ∈ lw_tbl := ch_2 _ (List.mem_of_getElem? (l := tables_1_2) (i := 221) rfl)
set_option maxRecDepth 100000 in
theorem tw_528 : (Cond.code yX2_wouldTake cX2_wouldTake 5 (some .boolean)) ∈ lw_tbl := ch_2 _ (List.mem_of_getElem? (l := tables_1_2) (i := 222) rfl)
set_option maxRecDepth 100000 in
theorem tw_529 : (Cond.methodLink RX2 68 yX2_distance) ∈ lw_tbl := ch_2 _ (List.mem_of_getElem? (l := tables_1_2) (i := 223) rfl)
set_option maxRecDepth 100000 in
theorem tw_530 : (Cond.methodLink RX2 71 yX2_lips) ∈ lw_tbl := ch_2 _ (List.mem_of_getElem? (l := tables_1_2) (i := 224) rfl)
set_option maxRecDepth 100000 in
theorem tw_531 : (Cond.instanceMethod yX2_lips) ∈ lw_tbl := ch_2 _ (List.mem_of_getElem? (l := tables_1_2) (i := 225) rfl)
set_option maxRecDepth 100000 in
theorem tw_532 : (Cond.selects RX2 yX2_lips yX2_lips) ∈ lw_tbl := ch_2 _ (List.mem_of_getElem? (l := tables_1_2) (i := 226) rfl)
set_option maxRecDepth 100000 in
theorem tw_533 : (Cond.code yX2_lips cX2_lips 5 (some .int)) ∈ lw_tbl := ch_2 _ (List.mem_of_getElem? (l := tables_1_2) (i := 227) rfl)
set_option maxRecDepth 100000 in
theorem tw_534 : (Cond.methodLink RX7 172 yX2_isThere) ∈ lw_tbl := ch_2 _ (List.mem_of_getElem? (l := tables_1_2) (i := 228) rfl)
set_option maxRecDepth 100000 in
theorem tw_535 : (Cond.constant RX7 175 (-1000000)) ∈ lw_tbl := ch_2 _ (List.mem_of_getElem? (l := tables_1_2) (i := 229) rfl)
set_option maxRecDepth 100000 in
theorem tw_536 : (Cond.methodLink RX7 176 yX4_addTry) ∈ lw_tbl := ch_2 _ (List.mem_of_getElem? (l := tables_1_2) (i := 230) rfl)
set_option maxRecDepth 100000 in
theorem tw_537 : (Cond.instanceMethod yX4_addTry) ∈ lw_tbl := ch_2 _ (List.mem_of_getElem? (l := tables_1_2) (i := 231) rfl)
set_option maxRecDepth 100000 in
theorem tw_538 : (Cond.selects RX4 yX4_addTry yX4_addTry) ∈ lw_tbl := ch_2 _ (List.mem_of_getElem? (l := tables_1_2) (i := 232) rfl)
set_option maxRecDepth 100000 in
theorem tw_539 : (Cond.code yX4_addTry cX4_addTry 4 none) ∈ lw_tbl := ch_2 _ (List.mem_of_getElem? (l := tables_1_2) (i := 233) rfl)
set_option maxRecDepth 100000 in
theorem tw_541 : (Cond.static yX7_bit) ∈ lw_tbl := ch_2 _ (List.mem_of_getElem? (l := tables_1_2) (i := 235) rfl)
set_option maxRecDepth 100000 in
theorem tw_542 : (Cond.code yX7_bit cX7_bit 1 (some .int)) ∈ lw_tbl := ch_2 _ (List.mem_of_getElem? (l := tables_1_2) (i := 236) rfl)
set_option maxRecDepth 100000 in
theorem tw_543 : (Cond.methodLink RX7 180 yX7_bit) ∈ lw_tbl := ch_2 _ (List.mem_of_getElem? (l := tables_1_2) (i := 237) rfl)
set_option maxRecDepth 100000 in
theorem tw_544 : (Cond.methodLink RL 54 yX7_start) ∈ lw_tbl := ch_2 _ (List.mem_of_getElem? (l := tables_1_2) (i := 238) rfl)
set_option maxRecDepth 100000 in
theorem tw_545 : (Cond.instanceMethod yX7_start) ∈ lw_tbl := ch_2 _ (List.mem_of_getElem? (l := tables_1_2) (i := 239) rfl)
set_option maxRecDepth 100000 in
theorem tw_546 : (Cond.selects RX7 yX7_start yX7_start) ∈ lw_tbl := ch_3 _ (List.mem_of_getElem? (l := tables_1_3) (i := 0) rfl)
set_option maxRecDepth 100000 in
theorem tw_547 : (Cond.code yX7_start cX7_start 3 (some .int)) ∈ lw_tbl := ch_3 _ (List.mem_of_getElem? (l := tables_1_3) (i := 1) rfl)
set_option maxRecDepth 100000 in
theorem tw_548 : (Cond.methodLink RL 58 yX7_dismiss) ∈ lw_tbl := ch_3 _ (List.mem_of_getElem? (l := tables_1_3) (i := 2) rfl)
set_option maxRecDepth 100000 in
theorem tw_549 : (Cond.instanceMethod yX7_dismiss) ∈ lw_tbl := ch_3 _ (List.mem_of_getElem? (l := tables_1_3) (i := 3) rfl)
set_option maxRecDepth 100000 in
theorem tw_550 : (Cond.selects RX7 yX7_dismiss yX7_dismiss) ∈ lw_tbl := ch_3 _ (List.mem_of_getElem? (l := tables_1_3) (i := 4) rfl)
set_option maxRecDepth 100000 in
theorem tw_551 : (Cond.code yX7_dismiss cX7_dismiss 3 (some .int)) ∈ lw_tbl := ch_3 _ (List.mem_of_getElem? (l := tables_1_3) (i := 5) rfl)
set_option maxRecDepth 100000 in
theorem tw_552 : (Cond.methodLink RX7 187 yX7_isGuard) ∈ lw_tbl := ch_3 _ (List.mem_of_getElem? (l := tables_1_3) (i := 6) rfl)
set_option maxRecDepth 100000 in
theorem tw_554 : (Cond.instanceMethod yX7_isGuard) ∈ lw_tbl := ch_3 _ (List.mem_of_getElem? (l := tables_1_3) (i := 8) rfl)
set_option maxRecDepth 100000 in
theorem tw_555 : (Cond.code yX7_isGuard cX7_isGuard 2 (some .boolean)) ∈ lw_tbl := ch_3 _ (List.mem_of_getElem? (l := tables_1_3) (i := 9) rfl)
set_option maxRecDepth 100000 in
theorem tw_556 : (Cond.methodLink RL 62 yX7_undo) ∈ lw_tbl := ch_3 _ (List.mem_of_getElem? (l := tables_1_3) (i := 10) rfl)
set_option maxRecDepth 100000 in
theorem tw_557 : (Cond.instanceMethod yX7_undo) ∈ lw_tbl := ch_3 _ (List.mem_of_getElem? (l := tables_1_3) (i := 11) rfl)
set_option maxRecDepth 100000 in
theorem tw_558 : (Cond.selects RX7 yX7_undo yX7_undo) ∈ lw_tbl := ch_3 _ (List.mem_of_getElem? (l := tables_1_3) (i := 12) rfl)
set_option maxRecDepth 100000 in
theorem tw_559 : (Cond.code yX7_undo cX7_undo 1 (some .int)) ∈ lw_tbl := ch_3 _ (List.mem_of_getElem? (l := tables_1_3) (i := 13) rfl)
set_option maxRecDepth 100000 in
theorem tw_560 : (Cond.methodLink RX7 193 yX0_takeBack) ∈ lw_tbl := ch_3 _ (List.mem_of_getElem? (l := tables_1_3) (i := 14) rfl)
set_option maxRecDepth 100000 in
theorem tw_561 : (Cond.instanceMethod yX0_takeBack) ∈ lw_tbl := ch_3 _ (List.mem_of_getElem? (l := tables_1_3) (i := 15) rfl)
set_option maxRecDepth 100000 in
theorem tw_562 : (Cond.selects RX0 yX0_takeBack yX0_takeBack) ∈ lw_tbl := ch_3 _ (List.mem_of_getElem? (l := tables_1_3) (i := 16) rfl)
set_option maxRecDepth 100000 in
theorem tw_563 : (Cond.code yX0_takeBack cX0_takeBack 2 (some .boolean)) ∈ lw_tbl := ch_3 _ (List.mem_of_getElem? (l := tables_1_3) (i := 17) rfl)
set_option maxRecDepth 100000 in
theorem tw_564 : (Cond.methodLink RL 66 yX7_letter) ∈ lw_tbl := ch_3 _ (List.mem_of_getElem? (l := tables_1_3) (i := 18) rfl)
set_option maxRecDepth 100000 in
theorem tw_565 : (Cond.instanceMethod yX7_letter) ∈ lw_tbl := ch_3 _ (List.mem_of_getElem? (l := tables_1_3) (i := 19) rfl)
set_option maxRecDepth 100000 in
theorem tw_566 : (Cond.selects RX7 yX7_letter yX7_letter) ∈ lw_tbl := ch_3 _ (List.mem_of_getElem? (l := tables_1_3) (i := 20) rfl)
set_option maxRecDepth 100000 in
theorem tw_567 : (Cond.code yX7_letter cX7_letter 3 (some .int)) ∈ lw_tbl := ch_3 _ (List.mem_of_getElem? (l := tables_1_3) (i := 21) rfl)
set_option maxRecDepth 100000 in
theorem tw_568 : (Cond.methodLink RL 70 yX7_like) ∈ lw_tbl := ch_3 _ (List.mem_of_getElem? (l := tables_1_3) (i := 22) rfl)
set_option maxRecDepth 100000 in
theorem tw_569 : (Cond.instanceMethod yX7_like) ∈ lw_tbl := ch_3 _ (List.mem_of_getElem? (l := tables_1_3) (i := 23) rfl)
set_option maxRecDepth 100000 in
theorem tw_570 : (Cond.selects RX7 yX7_like yX7_like) ∈ lw_tbl := ch_3 _ (List.mem_of_getElem? (l := tables_1_3) (i := 24) rfl)
set_option maxRecDepth 100000 in
theorem tw_571 : (Cond.code yX7_like cX7_like 4 (some .int)) ∈ lw_tbl := ch_3 _ (List.mem_of_getElem? (l := tables_1_3) (i := 25) rfl)
set_option maxRecDepth 100000 in
theorem tw_572 : (Cond.methodLink RX7 203 yX2_distance) ∈ lw_tbl := ch_3 _ (List.mem_of_getElem? (l := tables_1_3) (i := 26) rfl)
set_option maxRecDepth 100000 in
theorem tw_573 : (Cond.methodLink RX7 206 yX2_lips) ∈ lw_tbl := ch_3 _ (List.mem_of_getElem? (l := tables_1_3) (i := 27) rfl)
set_option maxRecDepth 100000 in
theorem tw_574 : (Cond.methodLink RL 74 yX7_guard) ∈ lw_tbl := ch_3 _ (List.mem_of_getElem? (l := tables_1_3) (i := 28) rfl)
set_option maxRecDepth 100000 in
theorem tw_575 : (Cond.instanceMethod yX7_guard) ∈ lw_tbl := ch_3 _ (List.mem_of_getElem? (l := tables_1_3) (i := 29) rfl)
set_option maxRecDepth 100000 in
theorem tw_576 : (Cond.selects RX7 yX7_guard yX7_guard) ∈ lw_tbl := ch_3 _ (List.mem_of_getElem? (l := tables_1_3) (i := 30) rfl)
set_option maxRecDepth 100000 in
theorem tw_577 : (Cond.code yX7_guard cX7_guard 3 (some .int)) ∈ lw_tbl := ch_3 _ (List.mem_of_getElem? (l := tables_1_3) (i := 31) rfl)
set_option maxRecDepth 100000 in
theorem tw_578 : (Cond.methodLink RX7 215 yX2_hoursOf) ∈ lw_tbl := ch_3 _ (List.mem_of_getElem? (l := tables_1_3) (i := 32) rfl)
set_option maxRecDepth 100000 in
theorem tw_579 : (Cond.instanceMethod yX2_hoursOf) ∈ lw_tbl := ch_3 _ (List.mem_of_getElem? (l := tables_1_3) (i := 33) rfl)
set_option maxRecDepth 100000 in
theorem tw_580 : (Cond.selects RX2 yX2_hoursOf yX2_hoursOf) ∈ lw_tbl := ch_3 _ (List.mem_of_getElem? (l := tables_1_3) (i := 34) rfl)
set_option maxRecDepth 100000 in
theorem tw_581 : (Cond.code yX2_hoursOf cX2_hoursOf 4 (some .int)) ∈ lw_tbl := ch_3 _ (List.mem_of_getElem? (l := tables_1_3) (i := 35) rfl)
set_option maxRecDepth 100000 in
theorem tw_583 : (Cond.methodLink RL 78 yX7_tried) ∈ lw_tbl := ch_3 _ (List.mem_of_getElem? (l := tables_1_3) (i := 37) rfl)
set_option maxRecDepth 100000 in
theorem tw_584 : (Cond.instanceMethod yX7_tried) ∈ lw_tbl := ch_3 _ (List.mem_of_getElem? (l := tables_1_3) (i := 38) rfl)
set_option maxRecDepth 100000 in
theorem tw_585 : (Cond.selects RX7 yX7_tried yX7_tried) ∈ lw_tbl := ch_3 _ (List.mem_of_getElem? (l := tables_1_3) (i := 39) rfl)
set_option maxRecDepth 100000 in
theorem tw_586 : (Cond.code yX7_tried cX7_tried 3 (some .int)) ∈ lw_tbl := ch_3 _ (List.mem_of_getElem? (l := tables_1_3) (i := 40) rfl)
set_option maxRecDepth 100000 in
theorem tw_587 : (Cond.methodLink RL 82 yX7_secret) ∈ lw_tbl := ch_3 _ (List.mem_of_getElem? (l := tables_1_3) (i := 41) rfl)
set_option maxRecDepth 100000 in
theorem tw_588 : (Cond.instanceMethod yX7_secret) ∈ lw_tbl := ch_3 _ (List.mem_of_getElem? (l := tables_1_3) (i := 42) rfl)
set_option maxRecDepth 100000 in
theorem tw_589 : (Cond.selects RX7 yX7_secret yX7_secret) ∈ lw_tbl := ch_3 _ (List.mem_of_getElem? (l := tables_1_3) (i := 43) rfl)
set_option maxRecDepth 100000 in
theorem tw_590 : (Cond.code yX7_secret cX7_secret 2 (some .int)) ∈ lw_tbl := ch_3 _ (List.mem_of_getElem? (l := tables_1_3) (i := 44) rfl)
set_option maxRecDepth 100000 in
theorem tw_591 : (Cond.methodLink RX7 227 yX7_isAhead) ∈ lw_tbl := ch_3 _ (List.mem_of_getElem? (l := tables_1_3) (i := 45) rfl)
set_option maxRecDepth 100000 in
theorem tw_593 : (Cond.instanceMethod yX7_isAhead) ∈ lw_tbl := ch_3 _ (List.mem_of_getElem? (l := tables_1_3) (i := 47) rfl)
set_option maxRecDepth 100000 in
theorem tw_594 : (Cond.code yX7_isAhead cX7_isAhead 2 (some .boolean)) ∈ lw_tbl := ch_3 _ (List.mem_of_getElem? (l := tables_1_3) (i := 48) rfl)
set_option maxRecDepth 100000 in
theorem tw_595 : (Cond.methodLink RL 86 yX7_taken) ∈ lw_tbl := ch_3 _ (List.mem_of_getElem? (l := tables_1_3) (i := 49) rfl)
set_option maxRecDepth 100000 in
theorem tw_596 : (Cond.instanceMethod yX7_taken) ∈ lw_tbl := ch_3 _ (List.mem_of_getElem? (l := tables_1_3) (i := 50) rfl)
set_option maxRecDepth 100000 in
theorem tw_597 : (Cond.selects RX7 yX7_taken yX7_taken) ∈ lw_tbl := ch_3 _ (List.mem_of_getElem? (l := tables_1_3) (i := 51) rfl)
set_option maxRecDepth 100000 in
theorem tw_598 : (Cond.code yX7_taken cX7_taken 4 (some .int)) ∈ lw_tbl := ch_3 _ (List.mem_of_getElem? (l := tables_1_3) (i := 52) rfl)
set_option maxRecDepth 100000 in
theorem tw_599 : (Cond.methodLink RL 90 yX7_safe) ∈ lw_tbl := ch_3 _ (List.mem_of_getElem? (l := tables_1_3) (i := 53) rfl)
set_option maxRecDepth 100000 in
theorem tw_600 : (Cond.instanceMethod yX7_safe) ∈ lw_tbl := ch_3 _ (List.mem_of_getElem? (l := tables_1_3) (i := 54) rfl)
set_option maxRecDepth 100000 in
theorem tw_601 : (Cond.selects RX7 yX7_safe yX7_safe) ∈ lw_tbl := ch_3 _ (List.mem_of_getElem? (l := tables_1_3) (i := 55) rfl)
set_option maxRecDepth 100000 in
theorem tw_602 : (Cond.code yX7_safe cX7_safe 3 (some .int)) ∈ lw_tbl := ch_3 _ (List.mem_of_getElem? (l := tables_1_3) (i := 56) rfl)
set_option maxRecDepth 100000 in
theorem tw_603 : (Cond.methodLink RX7 230 yX2_wordsIn) ∈ lw_tbl := ch_3 _ (List.mem_of_getElem? (l := tables_1_3) (i := 57) rfl)
set_option maxRecDepth 100000 in
theorem tw_604 : (Cond.instanceMethod yX2_wordsIn) ∈ lw_tbl := ch_3 _ (List.mem_of_getElem? (l := tables_1_3) (i := 58) rfl)
set_option maxRecDepth 100000 in
theorem tw_605 : (Cond.selects RX2 yX2_wordsIn yX2_wordsIn) ∈ lw_tbl := ch_3 _ (List.mem_of_getElem? (l := tables_1_3) (i := 59) rfl)
set_option maxRecDepth 100000 in
theorem tw_606 : (Cond.code yX2_wordsIn cX2_wordsIn 5 (some .int)) ∈ lw_tbl := ch_3 _ (List.mem_of_getElem? (l := tables_1_3) (i := 60) rfl)
set_option maxRecDepth 100000 in
theorem tw_607 : (Cond.methodLink RX2 96 yX2_catches) ∈ lw_tbl := ch_3 _ (List.mem_of_getElem? (l := tables_1_3) (i := 61) rfl)
set_option maxRecDepth 100000 in
theorem tw_608 : (Cond.methodLink RL 94 yX7_open) ∈ lw_tbl := ch_3 _ (List.mem_of_getElem? (l := tables_1_3) (i := 62) rfl)
set_option maxRecDepth 100000 in
theorem tw_609 : (Cond.instanceMethod yX7_open) ∈ lw_tbl := ch_3 _ (List.mem_of_getElem? (l := tables_1_3) (i := 63) rfl)
set_option maxRecDepth 100000 in
theorem tw_610 : (Cond.selects RX7 yX7_open yX7_open) ∈ lw_tbl := ch_3 _ (List.mem_of_getElem? (l := tables_1_3) (i := 64) rfl)
set_option maxRecDepth 100000 in
theorem tw_611 : (Cond.code yX7_open cX7_open 3 (some .int)) ∈ lw_tbl := ch_3 _ (List.mem_of_getElem? (l := tables_1_3) (i := 65) rfl)
set_option maxRecDepth 100000 in
theorem tw_612 : (Cond.methodLink RX7 233 yX7_areWords) ∈ lw_tbl := ch_3 _ (List.mem_of_getElem? (l := tables_1_3) (i := 66) rfl)
set_option maxRecDepth 100000 in
theorem tw_614 : (Cond.instanceMethod yX7_areWords) ∈ lw_tbl := ch_3 _ (List.mem_of_getElem? (l := tables_1_3) (i := 68) rfl)
set_option maxRecDepth 100000 in
theorem tw_615 : (Cond.code yX7_areWords cX7_areWords 2 (some .boolean)) ∈ lw_tbl := ch_3 _ (List.mem_of_getElem? (l := tables_1_3) (i := 69) rfl)
set_option maxRecDepth 100000 in
theorem tw_616 : (Cond.methodLink RX7 236 yX2_hoursOpen) ∈ lw_tbl := ch_3 _ (List.mem_of_getElem? (l := tables_1_3) (i := 70) rfl)
set_option maxRecDepth 100000 in
theorem tw_617 : (Cond.instanceMethod yX2_hoursOpen) ∈ lw_tbl := ch_3 _ (List.mem_of_getElem? (l := tables_1_3) (i := 71) rfl)
set_option maxRecDepth 100000 in
theorem tw_618 : (Cond.selects RX2 yX2_hoursOpen yX2_hoursOpen) ∈ lw_tbl := ch_3 _ (List.mem_of_getElem? (l := tables_1_3) (i := 72) rfl)
set_option maxRecDepth 100000 in
theorem tw_619 : (Cond.code yX2_hoursOpen cX2_hoursOpen 5 (some .int)) ∈ lw_tbl := ch_3 _ (List.mem_of_getElem? (l := tables_1_3) (i := 73) rfl)
set_option maxRecDepth 100000 in
theorem tw_620 : (Cond.methodLink RX2 100 yX2_wordsIn) ∈ lw_tbl := ch_3 _ (List.mem_of_getElem? (l := tables_1_3) (i := 74) rfl)
set_option maxRecDepth 100000 in
theorem tw_621 : (Cond.methodLink RL 98 yX7_next) ∈ lw_tbl := ch_3 _ (List.mem_of_getElem? (l := tables_1_3) (i := 75) rfl)
set_option maxRecDepth 100000 in
theorem tw_622 : (Cond.instanceMethod yX7_next) ∈ lw_tbl := ch_3 _ (List.mem_of_getElem? (l := tables_1_3) (i := 76) rfl)
set_option maxRecDepth 100000 in
theorem tw_623 : (Cond.selects RX7 yX7_next yX7_next) ∈ lw_tbl := ch_3 _ (List.mem_of_getElem? (l := tables_1_3) (i := 77) rfl)
set_option maxRecDepth 100000 in
theorem tw_624 : (Cond.code yX7_next cX7_next 2 (some .int)) ∈ lw_tbl := ch_3 _ (List.mem_of_getElem? (l := tables_1_3) (i := 78) rfl)
set_option maxRecDepth 100000 in
theorem tw_625 : (Cond.methodLink RX7 239 yX2_nightsUntil) ∈ lw_tbl := ch_3 _ (List.mem_of_getElem? (l := tables_1_3) (i := 79) rfl)
set_option maxRecDepth 100000 in
theorem tw_626 : (Cond.instanceMethod yX2_nightsUntil) ∈ lw_tbl := ch_3 _ (List.mem_of_getElem? (l := tables_1_3) (i := 80) rfl)
set_option maxRecDepth 100000 in
theorem tw_627 : (Cond.selects RX2 yX2_nightsUntil yX2_nightsUntil) ∈ lw_tbl := ch_3 _ (List.mem_of_getElem? (l := tables_1_3) (i := 81) rfl)
set_option maxRecDepth 100000 in
theorem tw_628 : (Cond.code yX2_nightsUntil cX2_nightsUntil 3 (some .int)) ∈ lw_tbl := ch_3 _ (List.mem_of_getElem? (l := tables_1_3) (i := 82) rfl)
set_option maxRecDepth 100000 in
theorem tw_629 : (Cond.constant RX2 103 (-1000000)) ∈ lw_tbl := ch_3 _ (List.mem_of_getElem? (l := tables_1_3) (i := 83) rfl)
set_option maxRecDepth 100000 in
theorem tw_630 : (Cond.methodLink RL 102 yX7_agree) ∈ lw_tbl := ch_3 _ (List.mem_of_getElem? (l := tables_1_3) (i := 84) rfl)
set_option maxRecDepth 100000 in
theorem tw_631 : (Cond.instanceMethod yX7_agree) ∈ lw_tbl := ch_3 _ (List.mem_of_getElem? (l := tables_1_3) (i := 85) rfl)
set_option maxRecDepth 100000 in
theorem tw_632 : (Cond.selects RX7 yX7_agree yX7_agree) ∈ lw_tbl := ch_3 _ (List.mem_of_getElem? (l := tables_1_3) (i := 86) rfl)
set_option maxRecDepth 100000 in
theorem tw_633 : (Cond.code yX7_agree cX7_agree 1 (some .int)) ∈ lw_tbl := ch_3 _ (List.mem_of_getElem? (l := tables_1_3) (i := 87) rfl)
set_option maxRecDepth 100000 in
theorem tw_634 : (Cond.methodLink RX7 242 yX3_agreeing) ∈ lw_tbl := ch_3 _ (List.mem_of_getElem? (l := tables_1_3) (i := 88) rfl)
set_option maxRecDepth 100000 in
theorem tw_635 : (Cond.static yX3_agreeing) ∈ lw_tbl := ch_3 _ (List.mem_of_getElem? (l := tables_1_3) (i := 89) rfl)
set_option maxRecDepth 100000 in
theorem tw_636 : (Cond.code yX3_agreeing cX3_agreeing 3 (some .int)) ∈ lw_tbl := ch_3 _ (List.mem_of_getElem? (l := tables_1_3) (i := 90) rfl)
set_option maxRecDepth 100000 in
theorem tw_637 : (Cond.methodLink RX3 24 yX3_agreesWithTries) ∈ lw_tbl := ch_3 _ (List.mem_of_getElem? (l := tables_1_3) (i := 91) rfl)
set_option maxRecDepth 100000 in
theorem tw_638 : (Cond.static yX3_agreesWithTries) ∈ lw_tbl := ch_3 _ (List.mem_of_getElem? (l := tables_1_3) (i := 92) rfl)
set_option maxRecDepth 100000 in
theorem tw_639 : (Cond.code yX3_agreesWithTries cX3_agreesWithTries 6 (some .boolean)) ∈ lw_tbl := ch_3 _ (List.mem_of_getElem? (l := tables_1_3) (i := 93) rfl)
set_option maxRecDepth 100000 in
theorem tw_640 : (Cond.methodLink RX3 56 yX2_wouldTake) ∈ lw_tbl := ch_3 _ (List.mem_of_getElem? (l := tables_1_3) (i := 94) rfl)
set_option maxRecDepth 100000 in
theorem tw_642 : (Cond.methodLink RL 106 yX7_man) ∈ lw_tbl := ch_3 _ (List.mem_of_getElem? (l := tables_1_3) (i := 96) rfl)
set_option maxRecDepth 100000 in
theorem tw_643 : (Cond.instanceMethod yX7_man) ∈ lw_tbl := ch_3 _ (List.mem_of_getElem? (l := tables_1_3) (i := 97) rfl)
set_option maxRecDepth 100000 in
theorem tw_644 : (Cond.selects RX7 yX7_man yX7_man) ∈ lw_tbl := ch_3 _ (List.mem_of_getElem? (l := tables_1_3) (i := 98) rfl)
set_option maxRecDepth 100000 in
theorem tw_645 : (Cond.code yX7_man cX7_man 4 (some .int)) ∈ lw_tbl := ch_3 _ (List.mem_of_getElem? (l := tables_1_3) (i := 99) rfl)
set_option maxRecDepth 100000 in
theorem tw_646 : (Cond.methodLink RX7 246 yX3_bestTry) ∈ lw_tbl := ch_3 _ (List.mem_of_getElem? (l := tables_1_3) (i := 100) rfl)
set_option maxRecDepth 100000 in
theorem tw_647 : (Cond.static yX3_bestTry) ∈ lw_tbl := ch_3 _ (List.mem_of_getElem? (l := tables_1_3) (i := 101) rfl)
set_option maxRecDepth 100000 in
theorem tw_648 : (Cond.code yX3_bestTry cX3_bestTry 6 (some .int)) ∈ lw_tbl := ch_3 _ (List.mem_of_getElem? (l := tables_1_3) (i := 102) rfl)
set_option maxRecDepth 100000 in
theorem tw_649 : (Cond.methodLink RX3 82 yX3_leftAtWorst) ∈ lw_tbl := ch_3 _ (List.mem_of_getElem? (l := tables_1_3) (i := 103) rfl)
set_option maxRecDepth 100000 in
theorem tw_650 : (Cond.static yX3_leftAtWorst) ∈ lw_tbl := ch_3 _ (List.mem_of_getElem? (l := tables_1_3) (i := 104) rfl)
set_option maxRecDepth 100000 in
theorem tw_651 : (Cond.code yX3_leftAtWorst cX3_leftAtWorst 4 (some .int)) ∈ lw_tbl := ch_3 _ (List.mem_of_getElem? (l := tables_1_3) (i := 105) rfl)
set_option maxRecDepth 100000 in
theorem tw_652 : (Cond.methodLink RX3 66 yX3_secretsCatching) ∈ lw_tbl := ch_3 _ (List.mem_of_getElem? (l := tables_1_3) (i := 106) rfl)
set_option maxRecDepth 100000 in
theorem tw_653 : (Cond.static yX3_secretsCatching) ∈ lw_tbl := ch_3 _ (List.mem_of_getElem? (l := tables_1_3) (i := 107) rfl)
set_option maxRecDepth 100000 in
theorem tw_654 : (Cond.code yX3_secretsCatching cX3_secretsCatching 5 (some .int)) ∈ lw_tbl := ch_3 _ (List.mem_of_getElem? (l := tables_1_3) (i := 108) rfl)
set_option maxRecDepth 100000 in
theorem tw_655 : (Cond.methodLink RX3 63 yX2_catchesIf) ∈ lw_tbl := ch_3 _ (List.mem_of_getElem? (l := tables_1_3) (i := 109) rfl)
set_option maxRecDepth 100000 in
theorem tw_656 : (Cond.methodLink RX3 70 yJ6_bitCount_0f7a4) ∈ lw_tbl := ch_3 _ (List.mem_of_getElem? (l := tables_1_3) (i := 110) rfl)
set_option maxRecDepth 100000 in
theorem tw_657 : (Cond.static yJ6_bitCount_0f7a4) ∈ lw_tbl := ch_3 _ (List.mem_of_getElem? (l := tables_1_3) (i := 111) rfl)
set_option maxRecDepth 100000 in
theorem tw_658 : (Cond.code yJ6_bitCount_0f7a4 cJ6_bitCount_0f7a4 1 (some .int)) ∈ lw_tbl := ch_3 _ (List.mem_of_getElem? (l := tables_1_3) (i := 112) rfl)
set_option maxRecDepth 100000 in
theorem tw_659 : (Cond.constant RJ6 265 (1431655765)) ∈ lw_tbl := ch_3 _ (List.mem_of_getElem? (l := tables_1_3) (i := 113) rfl)
set_option maxRecDepth 100000 in
theorem tw_660 : (Cond.constant RJ6 266 (858993459)) ∈ lw_tbl := ch_3 _ (List.mem_of_getElem? (l := tables_1_3) (i := 114) rfl)
set_option maxRecDepth 100000 in
theorem tw_661 : (Cond.constant RJ6 267 (252645135)) ∈ lw_tbl := ch_3 _ (List.mem_of_getElem? (l := tables_1_3) (i := 115) rfl)
set_option maxRecDepth 100000 in
theorem tw_662 : (Cond.methodLink RX3 76 Lib.Math.max.name) ∈ lw_tbl := ch_3 _ (List.mem_of_getElem? (l := tables_1_3) (i := 116) rfl)
set_option maxRecDepth 100000 in
theorem tw_663 : (Cond.static Lib.Math.max.name) ∈ lw_tbl := ch_3 _ (List.mem_of_getElem? (l := tables_1_3) (i := 117) rfl)
set_option maxRecDepth 100000 in
theorem tw_664 : (Cond.code Lib.Math.max.name Lib.Math.max.code 2 (some .int)) ∈ lw_tbl := ch_3 _ (List.mem_of_getElem? (l := tables_1_3) (i := 118) rfl)
set_option maxRecDepth 100000 in
theorem tw_665 : (Cond.methodLink RX7 250 yX3_leftAtWorst) ∈ lw_tbl := ch_3 _ (List.mem_of_getElem? (l := tables_1_3) (i := 119) rfl)
set_option maxRecDepth 100000 in
theorem tw_666 : (Cond.methodLink RL 110 yX7_fewest) ∈ lw_tbl := ch_3 _ (List.mem_of_getElem? (l := tables_1_3) (i := 120) rfl)
set_option maxRecDepth 100000 in
theorem tw_667 : (Cond.instanceMethod yX7_fewest) ∈ lw_tbl := ch_3 _ (List.mem_of_getElem? (l := tables_1_3) (i := 121) rfl)
set_option maxRecDepth 100000 in
theorem tw_668 : (Cond.selects RX7 yX7_fewest yX7_fewest) ∈ lw_tbl := ch_3 _ (List.mem_of_getElem? (l := tables_1_3) (i := 122) rfl)
set_option maxRecDepth 100000 in
theorem tw_669 : (Cond.code yX7_fewest cX7_fewest 1 (some .int)) ∈ lw_tbl := ch_3 _ (List.mem_of_getElem? (l := tables_1_3) (i := 123) rfl)
set_option maxRecDepth 100000 in
theorem tw_670 : (Cond.methodLink RX7 254 yX3_fewestMen) ∈ lw_tbl := ch_3 _ (List.mem_of_getElem? (l := tables_1_3) (i := 124) rfl)
set_option maxRecDepth 100000 in
theorem tw_671 : (Cond.instanceMethod yX3_fewestMen) ∈ lw_tbl := ch_3 _ (List.mem_of_getElem? (l := tables_1_3) (i := 125) rfl)
set_option maxRecDepth 100000 in
theorem tw_672 : (Cond.selects RX3 yX3_fewestMen yX3_fewestMen) ∈ lw_tbl := ch_3 _ (List.mem_of_getElem? (l := tables_1_3) (i := 126) rfl)
set_option maxRecDepth 100000 in
theorem tw_673 : (Cond.code yX3_fewestMen cX3_fewestMen 5 (some .int)) ∈ lw_tbl := ch_3 _ (List.mem_of_getElem? (l := tables_1_3) (i := 127) rfl)
set_option maxRecDepth 100000 in
theorem tw_674 : (Cond.methodLink RX3 85 yX3_menToSplit) ∈ lw_tbl := ch_3 _ (List.mem_of_getElem? (l := tables_1_3) (i := 128) rfl)
set_option maxRecDepth 100000 in
theorem tw_676 : (Cond.instanceMethod yX3_menToSplit) ∈ lw_tbl := ch_3 _ (List.mem_of_getElem? (l := tables_1_3) (i := 130) rfl)
